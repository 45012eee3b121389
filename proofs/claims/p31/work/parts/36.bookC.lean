/-! THE BOOK'S METHODS -/
def bDep (S : yS) (i : Nat) : Nat := (S 44 0 (S 46 0 i).toNatClampNeg).toNatClampNeg
def bCharge (S : yS) (i : Nat) (m : Int32) : yS := sup (sup (sup S 41 0 (bDep S i) (S 41 0 (bDep S i) - m)) 51 i (bDep S i) (S 51 i (bDep S i) + m)) 40 0 12 (S 40 0 12 + m)
theorem bCharge_o {S : yS} {i : Nat} {m : Int32} {a b j : Nat} (h : a ≠ 41) (h2 : a ≠ 51) (h3 : ¬ (a = 40 ∧ j = 12)) : bCharge S i m a b j = S a b j := by
  unfold bCharge
  rw [sup_ne _ _ (fun q => h3 ⟨q.1, q.2.2⟩), sup_off _ _ (fun q => h2 q.1), sup_off _ _ (fun q => h q.1)]
def bHow (S : yS) (i : Nat) : Int32 := if S 40 0 13 - S 48 0 i ≤ 14 then (if S 40 0 13 - S 47 0 i ≤ 49 then 0 else 120) else 105
/-- what a minute does to the session i, in the Book -/
def bSt (S : yS) (i : Nat) : yS := if S 49 0 i = 0 then (if S 41 0 (bDep S i) = 0 then sup S 49 0 i 111 else sup (bCharge S i 1) 49 0 i (bHow S i)) else S
def bEn (S : yS) (i : Nat) (a : Int32) : Int32 := if S 49 0 i = 0 then (if S 41 0 (bDep S i) = 0 then a + 1 else if bHow S i = 0 then a + 0 else a + 1) else a
def bLiv (S : yS) (i : Nat) (a : Int32) : Nat → Int32
  | 0 => a
  | k + 1 => bLiv S (i + 1) (if S 49 0 i = 0 then a + 1 else a + 0) k
def bPs (T : yS) (i : Nat) : Nat → yS
  | 0 => T
  | k + 1 => bPs (bSt T i) (i + 1) k
def bPc (T : yS) (i : Nat) (a : Int32) : Nat → Int32
  | 0 => a
  | k + 1 => bPc (bSt T i) (i + 1) (bEn T i a) k
def bTick (T : yS) : yS := sup T 40 0 13 (T 40 0 13 + 1)
/-- the Book's numbers for its loops -/
def BI (S : yS) (ns : Nat) : Prop := S 40 0 3 = nI ns ∧ ns ≤ 40 ∧ (∀ i, i < ns → vp_in (S 46 0 i) 10) ∧ ∀ u, u < 10 → vp_in (S 44 0 u) 4
theorem BI.of {S T : yS} {ns : Nat} (h : BI S ns) (h1 : T 40 0 3 = S 40 0 3) (h2 : ∀ i, T 46 0 i = S 46 0 i) (h3 : ∀ u, T 44 0 u = S 44 0 u) : BI T ns := ⟨h1.trans h.1, h.2.1, fun i hi => by rw [h2]; exact h.2.2.1 i hi, fun u hu => by rw [h3]; exact h.2.2.2 u hu⟩
theorem bSt_o {S : yS} {i a b j : Nat} (h : a ≠ 41) (h2 : a ≠ 51) (h3 : ¬ (a = 40 ∧ j = 12)) (h4 : a ≠ 49) : bSt S i a b j = S a b j := by
  unfold bSt
  split
  · split
    · rw [sup_off _ _ (fun q => h4 q.1)]
    · rw [sup_off _ _ (fun q => h4 q.1), bCharge_o h h2 h3]
  · rfl
theorem BI.st {S : yS} {ns i : Nat} (h : BI S ns) : BI (bSt S i) ns := h.of (bSt_o (by decide) (by decide) (by omega) (by decide)) (fun _ => bSt_o (by decide) (by decide) (by omega) (by decide)) (fun _ => bSt_o (by decide) (by decide) (by omega) (by decide))
theorem BI.ps {ns : Nat} : ∀ (k i : Nat) {S : yS}, BI S ns → BI (bPs S i k) ns
  | 0, _, _, h => h
  | k + 1, i, _, h => BI.ps k (i + 1) h.st
theorem BI.tick {S : yS} {ns : Nat} (h : BI S ns) : BI (bTick S) ns := h.of (by simp [bTick, sup]) (fun _ => by simp [bTick, sup]) (fun _ => by simp [bTick, sup])
theorem nI_ne_0 {n : Nat} : nI n ≠ 0 → n ≠ 0 := fun h q => h (by rw [q]; rfl)
set_option maxHeartbeats 4000000 in
set_option maxRecDepth 100000 in
theorem c_L_low {l : Launch} {Z : yL} {al : yAl} {sh : ySh} {S : yS} {v : Int32} {n : Int32} {d9 : Nat} (hn9 : n = nI d9) (h0 : 0 < d9) (hd9 : d9 < 2 ^ 31) : Ct l yL_low wsL_low ({ frames := 0, cells := 0, slots := 0, locals := 0 }) 0 0 Z [.int v, .int n] al sh S (yR al sh (some (.int (nI (lwN v d9)))) S) := by
  refine Ct.of (lv := [(0, .int v), (1, .int n)]) (by decide) rfl (Nat.le_of_ble_eq_true rfl) rfl ?_
  intro p_ e_ s_ m_ below_ meth_ c_ cx hlk hr hnm9
  refine j_iload_n (j := 0) cx dL_low_0 rfl rfl (pc' := 1) rfl ?_
  refine j_ldc (v := 2147483647) cx (by decide +kernel) dL_low_1 (pc' := 3) rfl ?_
  refine j_iand cx dL_low_3 (pc' := 4) rfl ?_
  refine j_iload_n (j := 1) cx dL_low_4 rfl rfl (pc' := 5) rfl ?_
  refine j_irem cx (a := v.toBitVec.toNat % 2 ^ 31) (d9 := d9) (lwN_and v) hn9 (Nat.mod_lt _ (by decide)) h0 hd9 dL_low_5 (pc' := 6) rfl ?_
  exact j_iret (ty := .int) cx hlk hr rfl (Nat.le_of_ble_eq_true rfl) (Nat.le_of_ble_eq_true rfl) dL_low_6 ⟨rfl, rfl, rfl, rfl⟩
set_option maxHeartbeats 4000000 in
set_option maxRecDepth 100000 in
theorem c_X3_isLive {l : Launch} {Z : yL} {al : yAl} {sh : ySh} {S : yS} {i : Nat} (hK : YK Z al sh) (hi : i < 40) : Ct l yX3_isLive wsX3_isLive ({ frames := 0, cells := 0, slots := 0, locals := 0 }) 0 0 Z [.ref (al 40 0), .int (nI i)] al sh S (yR al sh (some (.int (bI (S 49 0 i = 0)))) S) := by
  refine Ct.of (lv := [(0, .ref (al 40 0)), (1, .int (nI i))]) (by decide) rfl (Nat.le_of_ble_eq_true rfl) rfl ?_
  intro p_ e_ s_ m_ below_ meth_ c_ cx hlk hr hnm9
  refine j_aload_n (j := 0) cx dX3_isLive_0 rfl rfl (pc' := 1) rfl ?_
  refine j_get (fk := 8) (ref := "TerminalYardLaw$Book") (v := .ref (al 49 0)) cx hK.1 rfl (by decide +kernel) (by decide) (by decide +kernel) (fun _ h => h) (yV_r (k := (49, 0)) rfl) rfl dX3_isLive_1 (pc' := 4) rfl ?_
  refine j_iload_n (j := 1) cx dX3_isLive_4 rfl rfl (pc' := 5) rfl ?_
  refine j_cald (v := S 49 0 i) cx hK.2.2.2.2.2.2.2.1 rfl (vp_in_nI hi (by decide)) (by rw [(nI_clamp (by omega))]) rfl dX3_isLive_5 (pc' := 6) rfl ?_
  refine j_if_ne (tgt := 13) cx dX3_isLive_6 (by decide) (pc' := 9) rfl (fun h1 => ?_) (fun h1 => ?_)
  · refine j_iconst (v := 0) cx dX3_isLive_13 (by decide) (pc' := 14) rfl ?_
    exact j_iret (ty := .boolean) cx hlk hr rfl (Nat.le_of_ble_eq_true rfl) (Nat.le_of_ble_eq_true rfl) dX3_isLive_14 ⟨congrArg (fun z => some (Value.int z)) (by simp [bI, *]), rfl, rfl, rfl⟩
  · refine j_iconst (v := 1) cx dX3_isLive_9 (by decide) (pc' := 10) rfl ?_
    refine j_goto (tgt := 14) cx dX3_isLive_10 (by decide) ?_
    exact j_iret (ty := .boolean) cx hlk hr rfl (Nat.le_of_ble_eq_true rfl) (Nat.le_of_ble_eq_true rfl) dX3_isLive_14 ⟨congrArg (fun z => some (Value.int z)) (by simp [bI, *]), rfl, rfl, rfl⟩
set_option maxHeartbeats 4000000 in
set_option maxRecDepth 100000 in
theorem c_X3_live {l : Launch} {Z : yL} {al : yAl} {sh : ySh} {S : yS} {ns : Nat} (hK : YK Z al sh) (hB : BI S ns) : Ct l yX3_live wsX3_live ({ frames := 1, cells := 0, slots := 0, locals := 21 }) 0 0 Z [.ref (al 40 0)] al sh S (yR al sh (some (.int (bLiv S 0 0 ns))) S) := by
  refine Ct.of (lv := [(0, .ref (al 40 0))]) (by decide) rfl (Nat.le_of_ble_eq_true rfl) rfl ?_
  intro p_ e_ s_ m_ below_ meth_ c_ cx hlk hr hnm9
  have loop : ∀ (k i : Nat) (a : Int32), i + k = ns → bLiv S i a k = bLiv S 0 0 ns → J p_ l e_ ({ frames := 1, cells := 0, slots := 0, locals := 21 }) s_ m_ (([.ref (al 40 0)] : List Value).toArray) below_ meth_ c_ 3 Z 0 0 (MQ below_ (Qn Z (yR al sh (some (.int (bLiv S 0 0 ns))) S)) (([.ref (al 40 0)] : List Value).toArray) s_ 0 0 (yF Z)) al sh S 4 [(0, .ref (al 40 0)), (1, .int a), (2, .int (nI i))] [] := by
    intro k
    induction k with
    | zero =>
      intro i a hik he
      have hik2 : i = ns := by omega
      subst hik2
      refine j_iload_n (j := 2) cx dX3_live_4 rfl rfl (pc' := 5) rfl ?_
      refine j_aload_n (j := 0) cx dX3_live_5 rfl rfl (pc' := 6) rfl ?_
      refine j_get (fk := 3) (ref := "TerminalYardLaw$Book") (v := .int (nI i)) cx hK.1 rfl (by decide +kernel) (by decide) (by decide +kernel) (fun _ h => h) ((yV_i rfl).trans (congrArg Value.int hB.1)) rfl dX3_live_6 (pc' := 9) rfl ?_
      refine j_icmp_ge (tgt := 34) cx dX3_live_9 (by decide) (pc' := 12) rfl (fun _ => ?_) (fun h => by first | exact absurd h nI_gg | exact absurd nI_gg h)
      refine j_iload_n (j := 1) cx dX3_live_34 rfl rfl (pc' := 35) rfl ?_
      exact j_iret (ty := .int) cx hlk hr rfl (Nat.le_of_ble_eq_true rfl) (Nat.le_of_ble_eq_true rfl) dX3_live_35 ⟨congrArg (fun z => some (Value.int z)) he, rfl, rfl, rfl⟩
    | succ k ih =>
      intro i a hik he
      have hi : i < ns := by omega
      refine j_iload_n (j := 2) cx dX3_live_4 rfl rfl (pc' := 5) rfl ?_
      refine j_aload_n (j := 0) cx dX3_live_5 rfl rfl (pc' := 6) rfl ?_
      refine j_get (fk := 3) (ref := "TerminalYardLaw$Book") (v := .int (nI ns)) cx hK.1 rfl (by decide +kernel) (by decide) (by decide +kernel) (fun _ h => h) ((yV_i rfl).trans (congrArg Value.int hB.1)) rfl dX3_live_6 (pc' := 9) rfl ?_
      refine j_icmp_ge (tgt := 34) cx dX3_live_9 (by decide) (pc' := 12) rfl (fun h => by first | exact absurd h (nI_ge hi (by have := hB.2.1; omega)) | exact absurd (nI_ge hi (by have := hB.2.1; omega)) h) (fun _ => ?_)
      refine j_iload_n (j := 1) cx dX3_live_12 rfl rfl (pc' := 13) rfl ?_
      refine j_aload_n (j := 0) cx dX3_live_13 rfl rfl (pc' := 14) rfl ?_
      refine j_iload_n (j := 2) cx dX3_live_14 rfl rfl (pc' := 15) rfl ?_
      refine j_cVR (cells1 := 0) (slots1 := 0) (st1 := [.int (bI (S 49 0 i = 0)), .int a]) (As := [.int (nI i)]) (rest := [.int a]) cx (c_X3_isLive hK (Nat.lt_of_lt_of_le hi hB.2.1)) gX3_live_X3_isLive rfl rfl rfl 1 rfl (by decide +kernel) ⟨Nat.le_of_ble_eq_true rfl, Nat.le_of_ble_eq_true rfl⟩ hK.1 rfl rfl rfl rfl (Nat.le_of_ble_eq_true rfl) dX3_live_15 ⟨(Nat.le_of_ble_eq_true rfl), (Nat.le_of_ble_eq_true rfl)⟩ (pc' := 18) rfl rfl rfl rfl ?_
      refine j_ifb_eq (tgt := 25) cx dX3_live_18 (by decide) (pc' := 21) rfl (fun h3 => ?_) (fun h3 => ?_)
      · refine j_iconst (v := 0) cx dX3_live_25 (by decide) (pc' := 26) rfl ?_
        refine j_iadd cx dX3_live_26 (pc' := 27) rfl ?_
        refine j_istore_n (lv' := [(1, .int (a + 0)), (0, .ref (al 40 0)), (2, .int (nI i))]) cx dX3_live_27 rfl (by decide) rfl (pc' := 28) rfl ?_
        refine j_iinc (j := 2) (v := nI (i + 1)) (lv' := [(2, .int (nI (i + 1))), (1, .int (a + 0)), (0, .ref (al 40 0))]) cx dX3_live_28 rfl (nI_1 i) (by decide) rfl (pc' := 31) rfl ?_
        refine j_goto (tgt := 4) cx dX3_live_31 (by decide) ?_
        exact J.sub [2, 1, 0] rfl (ih (i + 1) _ (by omega) (by rw [← he]; simp [bLiv, *]))
      · refine j_iconst (v := 1) cx dX3_live_21 (by decide) (pc' := 22) rfl ?_
        refine j_goto (tgt := 26) cx dX3_live_22 (by decide) ?_
        refine j_iadd cx dX3_live_26 (pc' := 27) rfl ?_
        refine j_istore_n (lv' := [(1, .int (a + 1)), (0, .ref (al 40 0)), (2, .int (nI i))]) cx dX3_live_27 rfl (by decide) rfl (pc' := 28) rfl ?_
        refine j_iinc (j := 2) (v := nI (i + 1)) (lv' := [(2, .int (nI (i + 1))), (1, .int (a + 1)), (0, .ref (al 40 0))]) cx dX3_live_28 rfl (nI_1 i) (by decide) rfl (pc' := 31) rfl ?_
        refine j_goto (tgt := 4) cx dX3_live_31 (by decide) ?_
        exact J.sub [2, 1, 0] rfl (ih (i + 1) _ (by omega) (by rw [← he]; simp [bLiv, *]))
  refine j_iconst (v := 0) cx dX3_live_0 (by decide) (pc' := 1) rfl ?_
  refine j_istore_n (lv' := [(1, .int 0), (0, .ref (al 40 0))]) cx dX3_live_1 rfl (by decide) rfl (pc' := 2) rfl ?_
  refine j_iconst (v := 0) cx dX3_live_2 (by decide) (pc' := 3) rfl ?_
  refine j_istore_n (lv' := [(2, .int 0), (1, .int 0), (0, .ref (al 40 0))]) cx dX3_live_3 rfl (by decide) rfl (pc' := 4) rfl ?_
  exact J.sub [2, 1, 0] rfl (loop ns 0 0 (by omega) rfl)
set_option maxHeartbeats 4000000 in
set_option maxRecDepth 100000 in
theorem c_X3_charge {l : Launch} {Z : yL} {al : yAl} {sh : ySh} {S : yS} {i : Nat} {x : Int32} (hK : YK Z al sh) (hi : i < 40) (hu : vp_in (S 46 0 i) 10) (hd : vp_in (S 44 0 (S 46 0 i).toNatClampNeg) 4) : Ct l yX3_charge wsX3_charge ({ frames := 0, cells := 0, slots := 0, locals := 0 }) 0 0 Z [.ref (al 40 0), .int (nI i), .int x] al sh S (yR al sh none (bCharge S i x)) := by
  obtain ⟨fo50, hf50, hg50⟩ := hK.2.2.2.2.2.2.2.2.2.2.1
  refine Ct.of (lv := [(0, .ref (al 40 0)), (1, .int (nI i)), (2, .int x)]) (by decide) rfl (Nat.le_of_ble_eq_true rfl) rfl ?_
  intro p_ e_ s_ m_ below_ meth_ c_ cx hlk hr hnm9
  refine j_aload_n (j := 0) cx dX3_charge_0 rfl rfl (pc' := 1) rfl ?_
  refine j_get (fk := 0) (ref := "TerminalYardLaw$Book") (v := .ref (al 41 0)) cx hK.1 rfl (by decide +kernel) (by decide) (by decide +kernel) (fun _ h => h) (yV_r (k := (41, 0)) rfl) rfl dX3_charge_1 (pc' := 4) rfl ?_
  refine j_aload_n (j := 0) cx dX3_charge_4 rfl rfl (pc' := 5) rfl ?_
  refine j_get (fk := 2) (ref := "TerminalYardLaw$Book") (v := .ref (al 44 0)) cx hK.1 rfl (by decide +kernel) (by decide) (by decide +kernel) (fun _ h => h) (yV_r (k := (44, 0)) rfl) rfl dX3_charge_5 (pc' := 8) rfl ?_
  refine j_aload_n (j := 0) cx dX3_charge_8 rfl rfl (pc' := 9) rfl ?_
  refine j_get (fk := 5) (ref := "TerminalYardLaw$Book") (v := .ref (al 46 0)) cx hK.1 rfl (by decide +kernel) (by decide) (by decide +kernel) (fun _ h => h) (yV_r (k := (46, 0)) rfl) rfl dX3_charge_9 (pc' := 12) rfl ?_
  refine j_iload_n (j := 1) cx dX3_charge_12 rfl rfl (pc' := 13) rfl ?_
  refine j_iald (v := S 46 0 i) cx hK.2.2.2.2.1 rfl (vp_in_nI hi (by decide)) (by rw [(nI_clamp (by omega))]) rfl dX3_charge_13 (pc' := 14) rfl ?_
  refine j_iald (v := S 44 0 ((S 46 0 i).toNatClampNeg)) cx hK.2.2.1 rfl hu rfl rfl dX3_charge_14 (pc' := 15) rfl ?_
  refine j_dup2 cx dX3_charge_15 rfl rfl (pc' := 16) rfl ?_
  refine j_iald (v := S 41 0 ((S 44 0 ((S 46 0 i).toNatClampNeg)).toNatClampNeg)) cx hK.2.1 rfl hd rfl rfl dX3_charge_16 (pc' := 17) rfl ?_
  refine j_iload_n (j := 2) cx dX3_charge_17 rfl rfl (pc' := 18) rfl ?_
  refine j_isub cx dX3_charge_18 (pc' := 19) rfl ?_
  refine j_iast (jn := (S 44 0 ((S 46 0 i).toNatClampNeg)).toNatClampNeg) cx hK.2.1 rfl hd rfl rfl dX3_charge_19 (pc' := 20) rfl ?_
  refine j_aload_n (j := 0) cx dX3_charge_20 rfl rfl (pc' := 21) rfl ?_
  refine j_get (fk := 9) (ref := "TerminalYardLaw$Book") (v := .ref (al 50 0)) cx hK.1 rfl (by decide +kernel) (by decide) (by decide +kernel) (fun _ h => h) (yV_r (k := (50, 0)) rfl) rfl dX3_charge_21 (pc' := 24) rfl ?_
  refine j_iload_n (j := 1) cx dX3_charge_24 rfl rfl (pc' := 25) rfl ?_
  refine j_aald cx hf50 (ti := 5) rfl rfl (vp_in_nI hi (by decide)) (r := al 51 i) ((congrArg _ (nI_clamp (by omega))).trans (hg50 i hi)) rfl dX3_charge_25 (pc' := 26) rfl ?_
  refine j_aload_n (j := 0) cx dX3_charge_26 rfl rfl (pc' := 27) rfl ?_
  refine j_get (fk := 2) (ref := "TerminalYardLaw$Book") (v := .ref (al 44 0)) cx hK.1 rfl (by decide +kernel) (by decide) (by decide +kernel) (fun _ h => h) (yV_r (k := (44, 0)) rfl) rfl dX3_charge_27 (pc' := 30) rfl ?_
  refine j_aload_n (j := 0) cx dX3_charge_30 rfl rfl (pc' := 31) rfl ?_
  refine j_get (fk := 5) (ref := "TerminalYardLaw$Book") (v := .ref (al 46 0)) cx hK.1 rfl (by decide +kernel) (by decide) (by decide +kernel) (fun _ h => h) (yV_r (k := (46, 0)) rfl) rfl dX3_charge_31 (pc' := 34) rfl ?_
  refine j_iload_n (j := 1) cx dX3_charge_34 rfl rfl (pc' := 35) rfl ?_
  refine j_iald (v := S 46 0 i) cx hK.2.2.2.2.1 rfl (vp_in_nI hi (by decide)) (by rw [(nI_clamp (by omega))]; simp [sup, bCharge_o, bSt_o]) rfl dX3_charge_35 (pc' := 36) rfl ?_
  refine j_iald (v := S 44 0 ((S 46 0 i).toNatClampNeg)) cx hK.2.2.1 rfl hu (by simp [sup, bCharge_o, bSt_o]) rfl dX3_charge_36 (pc' := 37) rfl ?_
  refine j_dup2 cx dX3_charge_37 rfl rfl (pc' := 38) rfl ?_
  refine j_iald (v := S 51 i ((S 44 0 ((S 46 0 i).toNatClampNeg)).toNatClampNeg)) cx (hK.2.2.2.2.2.2.2.2.2.2.2 _ hi) rfl hd (by simp [sup, bCharge_o, bSt_o]) rfl dX3_charge_38 (pc' := 39) rfl ?_
  refine j_iload_n (j := 2) cx dX3_charge_39 rfl rfl (pc' := 40) rfl ?_
  refine j_iadd cx dX3_charge_40 (pc' := 41) rfl ?_
  refine j_iast (jn := (S 44 0 ((S 46 0 i).toNatClampNeg)).toNatClampNeg) cx (hK.2.2.2.2.2.2.2.2.2.2.2 _ hi) rfl hd rfl rfl dX3_charge_41 (pc' := 42) rfl ?_
  refine j_aload_n (j := 0) cx dX3_charge_42 rfl rfl (pc' := 43) rfl ?_
  refine j_dup cx dX3_charge_43 rfl (pc' := 44) rfl ?_
  refine j_get (fk := 12) (ref := "TerminalYardLaw$Book") (v := .int (S 40 0 12)) cx hK.1 rfl (by decide +kernel) (by decide) (by decide +kernel) (fun _ h => h) ((yV_i rfl).trans (congrArg Value.int (by simp [sup, bCharge_o, bSt_o]))) rfl dX3_charge_44 (pc' := 47) rfl ?_
  refine j_iload_n (j := 2) cx dX3_charge_47 rfl rfl (pc' := 48) rfl ?_
  refine j_iadd cx dX3_charge_48 (pc' := 49) rfl ?_
  refine j_puti (fk := 12) (ref := "TerminalYardLaw$Book") (ty := .int) cx hK.1 rfl (by decide +kernel) (by decide) (by decide +kernel) (fun _ h => h) tyX3 tyX3_ok nmX3 rfl (by decide +kernel) rfl rfl rfl rfl dX3_charge_49 (pc' := 52) rfl ?_
  exact j_vret cx hlk hr (Nat.le_of_ble_eq_true rfl) (Nat.le_of_ble_eq_true rfl) dX3_charge_52 ⟨rfl, rfl, rfl, rfl⟩
set_option maxHeartbeats 4000000 in
set_option maxRecDepth 100000 in
theorem c_X3_pass {l : Launch} {Z : yL} {al : yAl} {sh : ySh} {S : yS} {ns : Nat} (hK : YK Z al sh) (hB : BI S ns) : Ct l yX3_pass wsX3_pass ({ frames := 1, cells := 0, slots := 0, locals := 22 }) 0 0 Z [.ref (al 40 0)] al sh S (yR al sh (some (.int (bPc (bTick S) 0 0 ns))) (bPs (bTick S) 0 ns)) := by
  refine Ct.of (lv := [(0, .ref (al 40 0))]) (by decide) rfl (Nat.le_of_ble_eq_true rfl) rfl ?_
  intro p_ e_ s_ m_ below_ meth_ c_ cx hlk hr hnm9
  have loop : ∀ (k i : Nat) (T : yS) (a : Int32), i + k = ns → BI T ns → bPs T i k = bPs (bTick S) 0 ns → bPc T i a k = bPc (bTick S) 0 0 ns → J p_ l e_ ({ frames := 1, cells := 0, slots := 0, locals := 22 }) s_ m_ (([.ref (al 40 0)] : List Value).toArray) below_ meth_ c_ 3 Z 0 0 (MQ below_ (Qn Z (yR al sh (some (.int (bPc (bTick S) 0 0 ns))) (bPs (bTick S) 0 ns))) (([.ref (al 40 0)] : List Value).toArray) s_ 0 0 (yF Z)) al sh T 14 [(0, .ref (al 40 0)), (1, .int a), (2, .int (nI i))] [] := by
    intro k
    induction k with
    | zero =>
      intro i T a hik hB he he2
      have hik2 : i = ns := by omega
      subst hik2
      refine j_iload_n (j := 2) cx dX3_pass_14 rfl rfl (pc' := 15) rfl ?_
      refine j_aload_n (j := 0) cx dX3_pass_15 rfl rfl (pc' := 16) rfl ?_
      refine j_get (fk := 3) (ref := "TerminalYardLaw$Book") (v := .int (nI i)) cx hK.1 rfl (by decide +kernel) (by decide) (by decide +kernel) (fun _ h => h) ((yV_i rfl).trans (congrArg Value.int hB.1)) rfl dX3_pass_16 (pc' := 19) rfl ?_
      refine j_icmp_ge (tgt := 140) cx dX3_pass_19 (by decide) (pc' := 22) rfl (fun _ => ?_) (fun h => by first | exact absurd h nI_gg | exact absurd nI_gg h)
      refine j_iload_n (j := 1) cx dX3_pass_140 rfl rfl (pc' := 141) rfl ?_
      exact j_iret (ty := .int) cx hlk hr rfl (Nat.le_of_ble_eq_true rfl) (Nat.le_of_ble_eq_true rfl) dX3_pass_141 ⟨congrArg (fun z => some (Value.int z)) he2, rfl, rfl, he⟩
    | succ k ih =>
      intro i T a hik hB he he2
      have hi : i < ns := by omega
      refine j_iload_n (j := 2) cx dX3_pass_14 rfl rfl (pc' := 15) rfl ?_
      refine j_aload_n (j := 0) cx dX3_pass_15 rfl rfl (pc' := 16) rfl ?_
      refine j_get (fk := 3) (ref := "TerminalYardLaw$Book") (v := .int (nI ns)) cx hK.1 rfl (by decide +kernel) (by decide) (by decide +kernel) (fun _ h => h) ((yV_i rfl).trans (congrArg Value.int hB.1)) rfl dX3_pass_16 (pc' := 19) rfl ?_
      refine j_icmp_ge (tgt := 140) cx dX3_pass_19 (by decide) (pc' := 22) rfl (fun h => by first | exact absurd h (nI_ge hi (by have := hB.2.1; omega)) | exact absurd (nI_ge hi (by have := hB.2.1; omega)) h) (fun _ => ?_)
      refine j_aload_n (j := 0) cx dX3_pass_22 rfl rfl (pc' := 23) rfl ?_
      refine j_iload_n (j := 2) cx dX3_pass_23 rfl rfl (pc' := 24) rfl ?_
      refine j_cVR (cells1 := 0) (slots1 := 0) (st1 := [.int (bI (T 49 0 i = 0))]) (As := [.int (nI i)]) (rest := []) cx (c_X3_isLive hK (Nat.lt_of_lt_of_le hi hB.2.1)) gX3_pass_X3_isLive rfl rfl rfl 1 rfl (by decide +kernel) ⟨Nat.le_of_ble_eq_true rfl, Nat.le_of_ble_eq_true rfl⟩ hK.1 rfl rfl rfl rfl (Nat.le_of_ble_eq_true rfl) dX3_pass_24 ⟨(Nat.le_of_ble_eq_true rfl), (Nat.le_of_ble_eq_true rfl)⟩ (pc' := 27) rfl rfl rfl rfl ?_
      refine j_ifb_ne (tgt := 33) cx dX3_pass_27 (by decide) (pc' := 30) rfl (fun h3 => ?_) (fun h3 => ?_)
      · refine j_aload_n (j := 0) cx dX3_pass_33 rfl rfl (pc' := 34) rfl ?_
        refine j_get (fk := 0) (ref := "TerminalYardLaw$Book") (v := .ref (al 41 0)) cx hK.1 rfl (by decide +kernel) (by decide) (by decide +kernel) (fun _ h => h) (yV_r (k := (41, 0)) rfl) rfl dX3_pass_34 (pc' := 37) rfl ?_
        refine j_aload_n (j := 0) cx dX3_pass_37 rfl rfl (pc' := 38) rfl ?_
        refine j_get (fk := 2) (ref := "TerminalYardLaw$Book") (v := .ref (al 44 0)) cx hK.1 rfl (by decide +kernel) (by decide) (by decide +kernel) (fun _ h => h) (yV_r (k := (44, 0)) rfl) rfl dX3_pass_38 (pc' := 41) rfl ?_
        refine j_aload_n (j := 0) cx dX3_pass_41 rfl rfl (pc' := 42) rfl ?_
        refine j_get (fk := 5) (ref := "TerminalYardLaw$Book") (v := .ref (al 46 0)) cx hK.1 rfl (by decide +kernel) (by decide) (by decide +kernel) (fun _ h => h) (yV_r (k := (46, 0)) rfl) rfl dX3_pass_42 (pc' := 45) rfl ?_
        refine j_iload_n (j := 2) cx dX3_pass_45 rfl rfl (pc' := 46) rfl ?_
        refine j_iald (v := T 46 0 i) cx hK.2.2.2.2.1 rfl (vp_in_nI (Nat.lt_of_lt_of_le hi hB.2.1) (by decide)) (by rw [(nI_clamp (by have := hB.2.1; omega))]) rfl dX3_pass_46 (pc' := 47) rfl ?_
        refine j_iald (v := T 44 0 ((T 46 0 i).toNatClampNeg)) cx hK.2.2.1 rfl (hB.2.2.1 _ hi) rfl rfl dX3_pass_47 (pc' := 48) rfl ?_
        refine j_iald (v := T 41 0 ((T 44 0 ((T 46 0 i).toNatClampNeg)).toNatClampNeg)) cx hK.2.1 rfl (hB.2.2.2 _ (ix_of (hB.2.2.1 _ hi))) rfl rfl dX3_pass_48 (pc' := 49) rfl ?_
        refine j_if_ne (tgt := 63) cx dX3_pass_49 (by decide) (pc' := 52) rfl (fun h4 => ?_) (fun h4 => ?_)
        · refine j_aload_n (j := 0) cx dX3_pass_63 rfl rfl (pc' := 64) rfl ?_
          refine j_iload_n (j := 2) cx dX3_pass_64 rfl rfl (pc' := 65) rfl ?_
          refine j_iconst (v := 1) cx dX3_pass_65 (by decide) (pc' := 66) rfl ?_
          refine j_cVR (cells1 := 0) (slots1 := 0) (st1 := []) (As := [.int (nI i), .int 1]) (rest := []) cx (c_X3_charge hK (Nat.lt_of_lt_of_le hi hB.2.1) (hB.2.2.1 _ hi) (hB.2.2.2 _ (ix_of (hB.2.2.1 _ hi)))) gX3_pass_X3_charge rfl rfl rfl 2 rfl (by decide +kernel) ⟨Nat.le_of_ble_eq_true rfl, Nat.le_of_ble_eq_true rfl⟩ hK.1 rfl rfl rfl rfl (Nat.le_of_ble_eq_true rfl) dX3_pass_66 ⟨(Nat.le_of_ble_eq_true rfl), (Nat.le_of_ble_eq_true rfl)⟩ (pc' := 69) rfl rfl rfl rfl ?_
          refine j_aload_n (j := 0) cx dX3_pass_69 rfl rfl (pc' := 70) rfl ?_
          refine j_get (fk := 8) (ref := "TerminalYardLaw$Book") (v := .ref (al 49 0)) cx hK.1 rfl (by decide +kernel) (by decide) (by decide +kernel) (fun _ h => h) (yV_r (k := (49, 0)) rfl) rfl dX3_pass_70 (pc' := 73) rfl ?_
          refine j_iload_n (j := 2) cx dX3_pass_73 rfl rfl (pc' := 74) rfl ?_
          refine j_aload_n (j := 0) cx dX3_pass_74 rfl rfl (pc' := 75) rfl ?_
          refine j_get (fk := 13) (ref := "TerminalYardLaw$Book") (v := .int (T 40 0 13)) cx hK.1 rfl (by decide +kernel) (by decide) (by decide +kernel) (fun _ h => h) ((yV_i rfl).trans (congrArg Value.int (by simp [sup, bCharge_o, bSt_o]))) rfl dX3_pass_75 (pc' := 78) rfl ?_
          refine j_aload_n (j := 0) cx dX3_pass_78 rfl rfl (pc' := 79) rfl ?_
          refine j_get (fk := 7) (ref := "TerminalYardLaw$Book") (v := .ref (al 48 0)) cx hK.1 rfl (by decide +kernel) (by decide) (by decide +kernel) (fun _ h => h) (yV_r (k := (48, 0)) rfl) rfl dX3_pass_79 (pc' := 82) rfl ?_
          refine j_iload_n (j := 2) cx dX3_pass_82 rfl rfl (pc' := 83) rfl ?_
          refine j_iald (v := T 48 0 i) cx hK.2.2.2.2.2.2.1 rfl (vp_in_nI (Nat.lt_of_lt_of_le hi hB.2.1) (by decide)) (by rw [(nI_clamp (by have := hB.2.1; omega))]; simp [sup, bCharge_o, bSt_o]) rfl dX3_pass_83 (pc' := 84) rfl ?_
          refine j_isub cx dX3_pass_84 (pc' := 85) rfl ?_
          refine j_bipush (v := 14) cx dX3_pass_85 (by decide) (pc' := 87) rfl ?_
          refine j_icmp_le (tgt := 95) cx dX3_pass_87 (by decide) (pc' := 90) rfl (fun h6 => ?_) (fun h6 => ?_)
          · refine j_aload_n (j := 0) cx dX3_pass_95 rfl rfl (pc' := 96) rfl ?_
            refine j_get (fk := 13) (ref := "TerminalYardLaw$Book") (v := .int (T 40 0 13)) cx hK.1 rfl (by decide +kernel) (by decide) (by decide +kernel) (fun _ h => h) ((yV_i rfl).trans (congrArg Value.int (by simp [sup, bCharge_o, bSt_o]))) rfl dX3_pass_96 (pc' := 99) rfl ?_
            refine j_aload_n (j := 0) cx dX3_pass_99 rfl rfl (pc' := 100) rfl ?_
            refine j_get (fk := 6) (ref := "TerminalYardLaw$Book") (v := .ref (al 47 0)) cx hK.1 rfl (by decide +kernel) (by decide) (by decide +kernel) (fun _ h => h) (yV_r (k := (47, 0)) rfl) rfl dX3_pass_100 (pc' := 103) rfl ?_
            refine j_iload_n (j := 2) cx dX3_pass_103 rfl rfl (pc' := 104) rfl ?_
            refine j_iald (v := T 47 0 i) cx hK.2.2.2.2.2.1 rfl (vp_in_nI (Nat.lt_of_lt_of_le hi hB.2.1) (by decide)) (by rw [(nI_clamp (by have := hB.2.1; omega))]; simp [sup, bCharge_o, bSt_o]) rfl dX3_pass_104 (pc' := 105) rfl ?_
            refine j_isub cx dX3_pass_105 (pc' := 106) rfl ?_
            refine j_bipush (v := 49) cx dX3_pass_106 (by decide) (pc' := 108) rfl ?_
            refine j_icmp_le (tgt := 116) cx dX3_pass_108 (by decide) (pc' := 111) rfl (fun h7 => ?_) (fun h7 => ?_)
            · refine j_iconst (v := 0) cx dX3_pass_116 (by decide) (pc' := 117) rfl ?_
              refine j_cast (jn := i) cx hK.2.2.2.2.2.2.2.1 rfl (vp_in_nI (Nat.lt_of_lt_of_le hi hB.2.1) (by decide)) rfl (nI_clamp (by have := hB.2.1; omega)) rfl dX3_pass_117 (pc' := 118) rfl ?_
              refine j_iload_n (j := 1) cx dX3_pass_118 rfl rfl (pc' := 119) rfl ?_
              refine j_aload_n (j := 0) cx dX3_pass_119 rfl rfl (pc' := 120) rfl ?_
              refine j_iload_n (j := 2) cx dX3_pass_120 rfl rfl (pc' := 121) rfl ?_
              refine j_cVR (cells1 := 0) (slots1 := 0) (st1 := [.int (bI ((sup (bCharge T i 1) 49 0 i 0) 49 0 i = 0)), .int a]) (As := [.int (nI i)]) (rest := [.int a]) cx (c_X3_isLive hK (Nat.lt_of_lt_of_le hi hB.2.1)) gX3_pass_X3_isLive rfl rfl rfl 1 rfl (by decide +kernel) ⟨Nat.le_of_ble_eq_true rfl, Nat.le_of_ble_eq_true rfl⟩ hK.1 rfl rfl rfl rfl (Nat.le_of_ble_eq_true rfl) dX3_pass_121 ⟨(Nat.le_of_ble_eq_true rfl), (Nat.le_of_ble_eq_true rfl)⟩ (pc' := 124) rfl rfl rfl rfl ?_
              refine j_ifb_eq (tgt := 131) cx dX3_pass_124 (by decide) (pc' := 127) rfl (fun h => by first | exact absurd h (sup_self _ _ _ _ _) | exact absurd (sup_self _ _ _ _ _) h) (fun _ => ?_)
              refine j_iconst (v := 0) cx dX3_pass_127 (by decide) (pc' := 128) rfl ?_
              refine j_goto (tgt := 132) cx dX3_pass_128 (by decide) ?_
              refine j_iadd cx dX3_pass_132 (pc' := 133) rfl ?_
              refine j_istore_n (lv' := [(1, .int (a + 0)), (0, .ref (al 40 0)), (2, .int (nI i))]) cx dX3_pass_133 rfl (by decide) rfl (pc' := 134) rfl ?_
              refine j_iinc (j := 2) (v := nI (i + 1)) (lv' := [(2, .int (nI (i + 1))), (1, .int (a + 0)), (0, .ref (al 40 0))]) cx dX3_pass_134 rfl (nI_1 i) (by decide) rfl (pc' := 137) rfl ?_
              refine j_goto (tgt := 14) cx dX3_pass_137 (by decide) ?_
              exact J.sub [2, 1, 0] rfl (ih (i + 1) _ _ (by omega) (by rw [show (sup (bCharge T i 1) 49 0 i 0) = bSt T i by simp [bSt, bDep, bHow, *]]; exact hB.st) (by rw [← he]; simp [bPs, bSt, bDep, bHow, *]) (by rw [← he2]; simp [bPc, bSt, bEn, bDep, bHow, *]))
            · refine j_bipush (v := 120) cx dX3_pass_111 (by decide) (pc' := 113) rfl ?_
              refine j_goto (tgt := 117) cx dX3_pass_113 (by decide) ?_
              refine j_cast (jn := i) cx hK.2.2.2.2.2.2.2.1 rfl (vp_in_nI (Nat.lt_of_lt_of_le hi hB.2.1) (by decide)) rfl (nI_clamp (by have := hB.2.1; omega)) rfl dX3_pass_117 (pc' := 118) rfl ?_
              refine j_iload_n (j := 1) cx dX3_pass_118 rfl rfl (pc' := 119) rfl ?_
              refine j_aload_n (j := 0) cx dX3_pass_119 rfl rfl (pc' := 120) rfl ?_
              refine j_iload_n (j := 2) cx dX3_pass_120 rfl rfl (pc' := 121) rfl ?_
              refine j_cVR (cells1 := 0) (slots1 := 0) (st1 := [.int (bI ((sup (bCharge T i 1) 49 0 i 120) 49 0 i = 0)), .int a]) (As := [.int (nI i)]) (rest := [.int a]) cx (c_X3_isLive hK (Nat.lt_of_lt_of_le hi hB.2.1)) gX3_pass_X3_isLive rfl rfl rfl 1 rfl (by decide +kernel) ⟨Nat.le_of_ble_eq_true rfl, Nat.le_of_ble_eq_true rfl⟩ hK.1 rfl rfl rfl rfl (Nat.le_of_ble_eq_true rfl) dX3_pass_121 ⟨(Nat.le_of_ble_eq_true rfl), (Nat.le_of_ble_eq_true rfl)⟩ (pc' := 124) rfl rfl rfl rfl ?_
              refine j_ifb_eq (tgt := 131) cx dX3_pass_124 (by decide) (pc' := 127) rfl (fun _ => ?_) (fun h => by first | exact absurd h (fun q9 => absurd ((sup_self _ _ _ _ _).symm.trans q9) (by decide)) | exact absurd (fun q9 => absurd ((sup_self _ _ _ _ _).symm.trans q9) (by decide)) h)
              refine j_iconst (v := 1) cx dX3_pass_131 (by decide) (pc' := 132) rfl ?_
              refine j_iadd cx dX3_pass_132 (pc' := 133) rfl ?_
              refine j_istore_n (lv' := [(1, .int (a + 1)), (0, .ref (al 40 0)), (2, .int (nI i))]) cx dX3_pass_133 rfl (by decide) rfl (pc' := 134) rfl ?_
              refine j_iinc (j := 2) (v := nI (i + 1)) (lv' := [(2, .int (nI (i + 1))), (1, .int (a + 1)), (0, .ref (al 40 0))]) cx dX3_pass_134 rfl (nI_1 i) (by decide) rfl (pc' := 137) rfl ?_
              refine j_goto (tgt := 14) cx dX3_pass_137 (by decide) ?_
              exact J.sub [2, 1, 0] rfl (ih (i + 1) _ _ (by omega) (by rw [show (sup (bCharge T i 1) 49 0 i 120) = bSt T i by simp [bSt, bDep, bHow, *]]; exact hB.st) (by rw [← he]; simp [bPs, bSt, bDep, bHow, *]) (by rw [← he2]; simp [bPc, bSt, bEn, bDep, bHow, *]))
          · refine j_bipush (v := 105) cx dX3_pass_90 (by decide) (pc' := 92) rfl ?_
            refine j_goto (tgt := 117) cx dX3_pass_92 (by decide) ?_
            refine j_cast (jn := i) cx hK.2.2.2.2.2.2.2.1 rfl (vp_in_nI (Nat.lt_of_lt_of_le hi hB.2.1) (by decide)) rfl (nI_clamp (by have := hB.2.1; omega)) rfl dX3_pass_117 (pc' := 118) rfl ?_
            refine j_iload_n (j := 1) cx dX3_pass_118 rfl rfl (pc' := 119) rfl ?_
            refine j_aload_n (j := 0) cx dX3_pass_119 rfl rfl (pc' := 120) rfl ?_
            refine j_iload_n (j := 2) cx dX3_pass_120 rfl rfl (pc' := 121) rfl ?_
            refine j_cVR (cells1 := 0) (slots1 := 0) (st1 := [.int (bI ((sup (bCharge T i 1) 49 0 i 105) 49 0 i = 0)), .int a]) (As := [.int (nI i)]) (rest := [.int a]) cx (c_X3_isLive hK (Nat.lt_of_lt_of_le hi hB.2.1)) gX3_pass_X3_isLive rfl rfl rfl 1 rfl (by decide +kernel) ⟨Nat.le_of_ble_eq_true rfl, Nat.le_of_ble_eq_true rfl⟩ hK.1 rfl rfl rfl rfl (Nat.le_of_ble_eq_true rfl) dX3_pass_121 ⟨(Nat.le_of_ble_eq_true rfl), (Nat.le_of_ble_eq_true rfl)⟩ (pc' := 124) rfl rfl rfl rfl ?_
            refine j_ifb_eq (tgt := 131) cx dX3_pass_124 (by decide) (pc' := 127) rfl (fun _ => ?_) (fun h => by first | exact absurd h (fun q9 => absurd ((sup_self _ _ _ _ _).symm.trans q9) (by decide)) | exact absurd (fun q9 => absurd ((sup_self _ _ _ _ _).symm.trans q9) (by decide)) h)
            refine j_iconst (v := 1) cx dX3_pass_131 (by decide) (pc' := 132) rfl ?_
            refine j_iadd cx dX3_pass_132 (pc' := 133) rfl ?_
            refine j_istore_n (lv' := [(1, .int (a + 1)), (0, .ref (al 40 0)), (2, .int (nI i))]) cx dX3_pass_133 rfl (by decide) rfl (pc' := 134) rfl ?_
            refine j_iinc (j := 2) (v := nI (i + 1)) (lv' := [(2, .int (nI (i + 1))), (1, .int (a + 1)), (0, .ref (al 40 0))]) cx dX3_pass_134 rfl (nI_1 i) (by decide) rfl (pc' := 137) rfl ?_
            refine j_goto (tgt := 14) cx dX3_pass_137 (by decide) ?_
            exact J.sub [2, 1, 0] rfl (ih (i + 1) _ _ (by omega) (by rw [show (sup (bCharge T i 1) 49 0 i 105) = bSt T i by simp [bSt, bDep, bHow, *]]; exact hB.st) (by rw [← he]; simp [bPs, bSt, bDep, bHow, *]) (by rw [← he2]; simp [bPc, bSt, bEn, bDep, bHow, *]))
        · refine j_aload_n (j := 0) cx dX3_pass_52 rfl rfl (pc' := 53) rfl ?_
          refine j_get (fk := 8) (ref := "TerminalYardLaw$Book") (v := .ref (al 49 0)) cx hK.1 rfl (by decide +kernel) (by decide) (by decide +kernel) (fun _ h => h) (yV_r (k := (49, 0)) rfl) rfl dX3_pass_53 (pc' := 56) rfl ?_
          refine j_iload_n (j := 2) cx dX3_pass_56 rfl rfl (pc' := 57) rfl ?_
          refine j_bipush (v := 111) cx dX3_pass_57 (by decide) (pc' := 59) rfl ?_
          refine j_cast (jn := i) cx hK.2.2.2.2.2.2.2.1 rfl (vp_in_nI (Nat.lt_of_lt_of_le hi hB.2.1) (by decide)) rfl (nI_clamp (by have := hB.2.1; omega)) rfl dX3_pass_59 (pc' := 60) rfl ?_
          refine j_goto (tgt := 118) cx dX3_pass_60 (by decide) ?_
          refine j_iload_n (j := 1) cx dX3_pass_118 rfl rfl (pc' := 119) rfl ?_
          refine j_aload_n (j := 0) cx dX3_pass_119 rfl rfl (pc' := 120) rfl ?_
          refine j_iload_n (j := 2) cx dX3_pass_120 rfl rfl (pc' := 121) rfl ?_
          refine j_cVR (cells1 := 0) (slots1 := 0) (st1 := [.int (bI ((sup T 49 0 i 111) 49 0 i = 0)), .int a]) (As := [.int (nI i)]) (rest := [.int a]) cx (c_X3_isLive hK (Nat.lt_of_lt_of_le hi hB.2.1)) gX3_pass_X3_isLive rfl rfl rfl 1 rfl (by decide +kernel) ⟨Nat.le_of_ble_eq_true rfl, Nat.le_of_ble_eq_true rfl⟩ hK.1 rfl rfl rfl rfl (Nat.le_of_ble_eq_true rfl) dX3_pass_121 ⟨(Nat.le_of_ble_eq_true rfl), (Nat.le_of_ble_eq_true rfl)⟩ (pc' := 124) rfl rfl rfl rfl ?_
          refine j_ifb_eq (tgt := 131) cx dX3_pass_124 (by decide) (pc' := 127) rfl (fun _ => ?_) (fun h => by first | exact absurd h (fun q9 => absurd ((sup_self _ _ _ _ _).symm.trans q9) (by decide)) | exact absurd (fun q9 => absurd ((sup_self _ _ _ _ _).symm.trans q9) (by decide)) h)
          refine j_iconst (v := 1) cx dX3_pass_131 (by decide) (pc' := 132) rfl ?_
          refine j_iadd cx dX3_pass_132 (pc' := 133) rfl ?_
          refine j_istore_n (lv' := [(1, .int (a + 1)), (0, .ref (al 40 0)), (2, .int (nI i))]) cx dX3_pass_133 rfl (by decide) rfl (pc' := 134) rfl ?_
          refine j_iinc (j := 2) (v := nI (i + 1)) (lv' := [(2, .int (nI (i + 1))), (1, .int (a + 1)), (0, .ref (al 40 0))]) cx dX3_pass_134 rfl (nI_1 i) (by decide) rfl (pc' := 137) rfl ?_
          refine j_goto (tgt := 14) cx dX3_pass_137 (by decide) ?_
          exact J.sub [2, 1, 0] rfl (ih (i + 1) _ _ (by omega) (by rw [show (sup T 49 0 i 111) = bSt T i by simp [bSt, bDep, bHow, *]]; exact hB.st) (by rw [← he]; simp [bPs, bSt, bDep, bHow, *]) (by rw [← he2]; simp [bPc, bSt, bEn, bDep, bHow, *]))
      · refine j_goto (tgt := 134) cx dX3_pass_30 (by decide) ?_
        refine j_iinc (j := 2) (v := nI (i + 1)) (lv' := [(2, .int (nI (i + 1))), (0, .ref (al 40 0)), (1, .int a)]) cx dX3_pass_134 rfl (nI_1 i) (by decide) rfl (pc' := 137) rfl ?_
        refine j_goto (tgt := 14) cx dX3_pass_137 (by decide) ?_
        exact J.sub [1, 2, 0] rfl (ih (i + 1) _ _ (by omega) (by rw [show T = bSt T i by simp [bSt, bDep, bHow, *]]; exact hB.st) (by rw [← he]; simp [bPs, bSt, bDep, bHow, *]) (by rw [← he2]; simp [bPc, bSt, bEn, bDep, bHow, *]))
  refine j_iconst (v := 0) cx dX3_pass_0 (by decide) (pc' := 1) rfl ?_
  refine j_istore_n (lv' := [(1, .int 0), (0, .ref (al 40 0))]) cx dX3_pass_1 rfl (by decide) rfl (pc' := 2) rfl ?_
  refine j_aload_n (j := 1) cx dX3_pass_2 rfl rfl (pc' := 3) rfl ?_
  refine j_dup cx dX3_pass_3 rfl (pc' := 4) rfl ?_
  refine j_get (fk := 13) (ref := "TerminalYardLaw$Book") (v := .int (S 40 0 13)) cx hK.1 rfl (by decide +kernel) (by decide) (by decide +kernel) (fun _ h => h) (yV_i rfl) rfl dX3_pass_4 (pc' := 7) rfl ?_
  refine j_iconst (v := 1) cx dX3_pass_7 (by decide) (pc' := 8) rfl ?_
  refine j_iadd cx dX3_pass_8 (pc' := 9) rfl ?_
  refine j_puti (fk := 13) (ref := "TerminalYardLaw$Book") (ty := .int) cx hK.1 rfl (by decide +kernel) (by decide) (by decide +kernel) (fun _ h => h) tyX3 tyX3_ok nmX3 rfl (by decide +kernel) rfl rfl rfl rfl dX3_pass_9 (pc' := 12) rfl ?_
  refine j_iconst (v := 0) cx dX3_pass_12 (by decide) (pc' := 13) rfl ?_
  refine j_istore_n (lv' := [(2, .int 0), (1, .int 0), (0, .ref (al 40 0))]) cx dX3_pass_13 rfl (by decide) rfl (pc' := 14) rfl ?_
  exact J.sub [2, 1, 0] rfl (loop ns 0 (bTick S) 0 (by omega) hB.tick rfl rfl)
