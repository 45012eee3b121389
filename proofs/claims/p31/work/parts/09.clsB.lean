set_option maxHeartbeats 4000000 in
set_option maxRecDepth 100000 in
theorem c_X2_checkStock {l : Launch} (hl0 : l.stackTraces = false) {Z : yL} {al : yAl} {sh : ySh} {S : yS} {nm ns : Nat} {mu : Nat → Nat} {dp n : Int32} (hY : YC Z al sh nm ns mu) (hd : vp_in dp 4) : Cq l yX2_checkStock wsX2_checkStock ({ frames := 6, cells := 1, slots := 6, locals := 90 }) 1 6 Z [.ref (al 0 0), .int dp, .int n] al sh S (yRp (¬ S 5 0 dp.toNatClampNeg < n) al sh none S) (fun E => E = xUO ∧ S 5 0 dp.toNatClampNeg < n) := by
  refine Cq.of (lv := [(0, .ref (al 0 0)), (1, .int dp), (2, .int n)]) (by decide) rfl (Nat.le_of_ble_eq_true rfl) rfl ?_
  intro p_ e_ s_ m_ below_ meth_ c_ cx hlk hr htb
  refine j_aload_n (j := 0) cx dX2_checkStock_0 rfl rfl (pc' := 1) rfl ?_
  refine j_get (fk := 4) (ref := "TerminalYard") (v := .ref (al 5 0)) cx hY.1 rfl (by decide +kernel) (by decide) (by decide +kernel) (fun _ h => h) (yV_r (k := (5, 0)) rfl) rfl dX2_checkStock_1 (pc' := 4) rfl ?_
  refine j_iload_n (j := 1) cx dX2_checkStock_4 rfl rfl (pc' := 5) rfl ?_
  refine j_iald (v := S 5 0 dp.toNatClampNeg) cx hY.2.2.2.2.2.1 rfl hd rfl rfl dX2_checkStock_5 (pc' := 6) rfl ?_
  refine j_iload_n (j := 2) cx dX2_checkStock_6 rfl rfl (pc' := 7) rfl ?_
  refine j_icmp_ge (tgt := 21) cx dX2_checkStock_7 (by decide) (pc' := 10) rfl (fun h1 => ?_) (fun h1 => ?_)
  · exact J.ret _ (j_vret cx hlk hr (Nat.le_of_ble_eq_true rfl) (Nat.le_of_ble_eq_true rfl) dX2_checkStock_21 ⟨Int32.not_lt.mpr h1, rfl, rfl, rfl, rfl⟩)
  · exact j_throwSW (ik := 257) (ic := 261) (is := 259) (cls := "java/lang/UnsupportedOperationException") (text := "the department has too few minutes") (names := ["java/lang/RuntimeException", "java/lang/Exception"]) cx hl0 hlk htb rfl (by decide) (by decide) (by decide) (by decide +kernel) (by decide +kernel) (by decide +kernel) (by decide +kernel) (by decide +kernel) dX2_checkStock_10 dX2_checkStock_13 dX2_checkStock_14 dX2_checkStock_17 dX2_checkStock_20 (Nat.le_of_ble_eq_true rfl) (Nat.le_of_ble_eq_true rfl) (Nat.le_of_ble_eq_true rfl) (Nat.le_of_ble_eq_true rfl) (Nat.le_of_ble_eq_true rfl) (Nat.le_of_ble_eq_true rfl) ⟨rfl, Int32.not_le.mp h1⟩
set_option maxHeartbeats 4000000 in
set_option maxRecDepth 100000 in
theorem c_X2_checkLive {l : Launch} (hl0 : l.stackTraces = false) {Z : yL} {al : yAl} {sh : ySh} {S : yS} {i mi : Nat} (hM : sh 21 i = some (.inl (4, tgS mi i))) : Cq l yX2_checkLive wsX2_checkLive ({ frames := 6, cells := 1, slots := 6, locals := 90 }) 1 6 Z [.ref (al 21 i)] al sh S (yRp (S 21 i 6 = 97) al sh none S) (fun E => E = xIS ∧ ¬ S 21 i 6 = 97) := by
  refine Cq.of (lv := [(0, .ref (al 21 i))]) (by decide) rfl (Nat.le_of_ble_eq_true rfl) rfl ?_
  intro p_ e_ s_ m_ below_ meth_ c_ cx hlk hr htb
  refine j_aload_n (j := 0) cx dX2_checkLive_0 rfl rfl (pc' := 1) rfl ?_
  refine j_cVR (cells1 := 0) (slots1 := 0) (st1 := [.int (bI (S 21 i 6 = 97))]) (As := []) (rest := []) cx (c_X1_isLive hM) gX2_checkLive_X1_isLive rfl rfl rfl 0 rfl (by decide +kernel) ⟨Nat.le_of_ble_eq_true rfl, Nat.le_of_ble_eq_true rfl⟩ hM rfl rfl rfl rfl (Nat.le_of_ble_eq_true rfl) dX2_checkLive_1 ⟨Nat.le_of_ble_eq_true rfl, Nat.le_of_ble_eq_true rfl⟩ (pc' := 4) rfl rfl rfl rfl ?_
  refine j_ifb_ne (tgt := 18) cx dX2_checkLive_4 (by decide) (pc' := 7) rfl (fun h2 => ?_) (fun h2 => ?_)
  · exact J.ret _ (j_vret cx hlk hr (Nat.le_of_ble_eq_true rfl) (Nat.le_of_ble_eq_true rfl) dX2_checkLive_18 ⟨h2, rfl, rfl, rfl, rfl⟩)
  · exact j_throwSW (ik := 71) (ic := 75) (is := 262) (cls := "java/lang/IllegalStateException") (text := "the session is not live") (names := ["java/lang/RuntimeException", "java/lang/Exception"]) cx hl0 hlk htb rfl (by decide) (by decide) (by decide) (by decide +kernel) (by decide +kernel) (by decide +kernel) (by decide +kernel) (by decide +kernel) dX2_checkLive_7 dX2_checkLive_10 dX2_checkLive_11 dX2_checkLive_14 dX2_checkLive_17 (Nat.le_of_ble_eq_true rfl) (Nat.le_of_ble_eq_true rfl) (Nat.le_of_ble_eq_true rfl) (Nat.le_of_ble_eq_true rfl) (Nat.le_of_ble_eq_true rfl) (Nat.le_of_ble_eq_true rfl) ⟨rfl, h2⟩
set_option maxHeartbeats 4000000 in
set_option maxRecDepth 100000 in
theorem c_size {l : Launch} {Z : yL} {al : yAl} {sh : ySh} {S : yS} {k : Nat} {tg : yTg} (hT : sh k 0 = some (.inl (2, tg))) (ht0 : tg 0 = none) (ht2 : tg 2 = none) : Ct l yJx4a65c_size_8abf5 wsJx4a65c_size_8abf5 ({ frames := 0, cells := 0, slots := 0, locals := 0 }) 0 0 Z [.ref (al k 0)] al sh S (yR al sh (some (.int (S k 0 2))) S) := by
  refine Ct.of (lv := [(0, .ref (al k 0))]) (by decide) rfl (Nat.le_of_ble_eq_true rfl) rfl ?_
  intro p_ e_ s_ m_ below_ meth_ c_ cx hlk hr hnm9
  refine j_aload_n (j := 0) cx dJx4a65c_size_8abf5_0 rfl rfl (pc' := 1) rfl ?_
  refine j_get (fk := 2) (ref := "java/util/ArrayList") (v := .int (S k 0 2)) cx hT rfl (by decide +kernel) (by decide) (by decide +kernel) (fun _ h => h) (yV_i ht2) rfl dJx4a65c_size_8abf5_1 (pc' := 4) rfl ?_
  exact j_iret (ty := .int) cx hlk hr rfl (Nat.le_of_ble_eq_true rfl) (Nat.le_of_ble_eq_true rfl) dJx4a65c_size_8abf5_4 ⟨rfl, rfl, rfl, rfl⟩
set_option maxHeartbeats 4000000 in
set_option maxRecDepth 100000 in
theorem c_ci3 {l : Launch} {Z : yL} {al : yAl} {sh : ySh} {S : yS} {x n : Int32} (h0 : ¬ x < 0) (h1 : x < n) : Ct l yJ3_checkIndex_8e157 wsJ3_checkIndex_8e157 ({ frames := 0, cells := 0, slots := 0, locals := 0 }) 0 0 Z [.int x, .int n, .null] al sh S (yR al sh (some (.int x)) S) := by
  refine Ct.of (lv := [(0, .int x), (1, .int n), (2, .null)]) (by decide) rfl (Nat.le_of_ble_eq_true rfl) rfl ?_
  intro p_ e_ s_ m_ below_ meth_ c_ cx hlk hr hnm9
  refine j_iload_n (j := 0) cx dJ3_checkIndex_8e157_0 rfl rfl (pc' := 1) rfl ?_
  refine j_if_lt (tgt := 9) cx dJ3_checkIndex_8e157_1 (by decide) (pc' := 4) rfl (fun h => by first | exact absurd h h0 | exact absurd h0 h) (fun _ => ?_)
  refine j_iload_n (j := 0) cx dJ3_checkIndex_8e157_4 rfl rfl (pc' := 5) rfl ?_
  refine j_iload_n (j := 1) cx dJ3_checkIndex_8e157_5 rfl rfl (pc' := 6) rfl ?_
  refine j_icmp_lt (tgt := 16) cx dJ3_checkIndex_8e157_6 (by decide) (pc' := 9) rfl (fun _ => ?_) (fun h => by first | exact absurd h h1 | exact absurd h1 h)
  refine j_iload_n (j := 0) cx dJ3_checkIndex_8e157_16 rfl rfl (pc' := 17) rfl ?_
  exact j_iret (ty := .int) cx hlk hr rfl (Nat.le_of_ble_eq_true rfl) (Nat.le_of_ble_eq_true rfl) dJ3_checkIndex_8e157_17 ⟨rfl, rfl, rfl, rfl⟩
set_option maxHeartbeats 4000000 in
set_option maxRecDepth 100000 in
theorem c_ci15 {l : Launch} {Z : yL} {al : yAl} {sh : ySh} {S : yS} {x n : Int32} (h0 : ¬ x < 0) (h1 : x < n) : Ct l yJ15_checkIndex_7cf53 wsJ15_checkIndex_7cf53 ({ frames := 1, cells := 0, slots := 0, locals := 22 }) 0 0 Z [.int x, .int n] al sh S (yR al sh (some (.int x)) S) := by
  refine Ct.of (lv := [(0, .int x), (1, .int n)]) (by decide) rfl (Nat.le_of_ble_eq_true rfl) rfl ?_
  intro p_ e_ s_ m_ below_ meth_ c_ cx hlk hr hnm9
  refine j_iload_n (j := 0) cx dJ15_checkIndex_7cf53_0 rfl rfl (pc' := 1) rfl ?_
  refine j_iload_n (j := 1) cx dJ15_checkIndex_7cf53_1 rfl rfl (pc' := 2) rfl ?_
  refine j_aconst cx dJ15_checkIndex_7cf53_2 (pc' := 3) rfl ?_
  refine j_cSR (cells1 := 0) (slots1 := 0) (st1 := [.int x]) (As := [.int x, .int n, .null]) (rest := []) cx (c_ci3 h0 h1) gJ15_checkIndex_7cf53_J3_checkIndex_8e157 rfl rfl rfl 3 rfl (by decide +kernel) ⟨Nat.le_of_ble_eq_true rfl, Nat.le_of_ble_eq_true rfl⟩ rfl (Nat.le_of_ble_eq_true rfl) dJ15_checkIndex_7cf53_3 ⟨Nat.le_of_ble_eq_true rfl, Nat.le_of_ble_eq_true rfl⟩ (pc' := 6) rfl rfl rfl rfl ?_
  exact j_iret (ty := .int) cx hlk hr rfl (Nat.le_of_ble_eq_true rfl) (Nat.le_of_ble_eq_true rfl) dJ15_checkIndex_7cf53_6 ⟨rfl, rfl, rfl, rfl⟩
set_option maxHeartbeats 4000000 in
set_option maxRecDepth 100000 in
theorem c_ed {l : Launch} {Z : yL} {al : yAl} {sh : ySh} {S : yS} {k n cp i r : Nat} {tg : yTg} {f : Nat → Option Nat} (hT : sh k 0 = some (.inl (2, tg))) (ht0 : tg 0 = none) (ht2 : tg 2 = none) (ht1 : tg 1 = some (some (k + 1, cp))) (hA : sh (k + 1) cp = some (.inr (.inr (Z.2.1 4, (cp, .inr (.inr (.inr (.inr f)))))))) (hi : i < n) (hn : n ≤ cp) (hc : cp ≤ 60) (hf : f i = some r) : Ct l yJx4a65c_elementData_915e3 wsJx4a65c_elementData_915e3 ({ frames := 0, cells := 0, slots := 0, locals := 0 }) 0 0 Z [.ref (al k 0), .int (nI i)] al sh S (yR al sh (some (.ref r)) S) := by
  refine Ct.of (lv := [(0, .ref (al k 0)), (1, .int (nI i))]) (by decide) rfl (Nat.le_of_ble_eq_true rfl) rfl ?_
  intro p_ e_ s_ m_ below_ meth_ c_ cx hlk hr hnm9
  refine j_aload_n (j := 0) cx dJx4a65c_elementData_915e3_0 rfl rfl (pc' := 1) rfl ?_
  refine j_get (fk := 1) (ref := "java/util/ArrayList") (v := .ref (al (k + 1) cp)) cx hT rfl (by decide +kernel) (by decide) (by decide +kernel) (fun _ h => h) (yV_r (k := (k + 1, cp)) ht1) rfl dJx4a65c_elementData_915e3_1 (pc' := 4) rfl ?_
  refine j_iload_n (j := 1) cx dJx4a65c_elementData_915e3_4 rfl rfl (pc' := 5) rfl ?_
  refine j_aald (r := r) (ti := 4) cx hA rfl rfl (vp_in_nI (by omega) (by omega)) (by rw [nI_clamp (by omega)]; exact hf) rfl dJx4a65c_elementData_915e3_5 (pc' := 6) rfl ?_
  exact j_aret cx hlk hr (Or.inl ⟨_, rfl⟩) (Nat.le_of_ble_eq_true rfl) (Nat.le_of_ble_eq_true rfl) dJx4a65c_elementData_915e3_6 ⟨rfl, rfl, rfl, rfl⟩
set_option maxHeartbeats 4000000 in
set_option maxRecDepth 100000 in
theorem c_get {l : Launch} {Z : yL} {al : yAl} {sh : ySh} {S : yS} {k n cp i r : Nat} {tg : yTg} {f : Nat → Option Nat} (hT : sh k 0 = some (.inl (2, tg))) (ht0 : tg 0 = none) (ht2 : tg 2 = none) (ht1 : tg 1 = some (some (k + 1, cp))) (hA : sh (k + 1) cp = some (.inr (.inr (Z.2.1 4, (cp, .inr (.inr (.inr (.inr f)))))))) (hi : i < n) (hn : n ≤ cp) (hc : cp ≤ 60) (hf : f i = some r) (hs : S k 0 2 = nI n) : Ct l yJx4a65c_get_915e3 wsJx4a65c_get_915e3 ({ frames := 2, cells := 0, slots := 0, locals := 43 }) 0 0 Z [.ref (al k 0), .int (nI i)] al sh S (yR al sh (some (.ref r)) S) := by
  have h0 : ¬ nI i < 0 := nI_pos (by omega)
  have h1 : nI i < S k 0 2 := by rw [hs]; exact nI_lt hi (by omega)
  refine Ct.of (lv := [(0, .ref (al k 0)), (1, .int (nI i))]) (by decide) rfl (Nat.le_of_ble_eq_true rfl) rfl ?_
  intro p_ e_ s_ m_ below_ meth_ c_ cx hlk hr hnm9
  refine j_iload_n (j := 1) cx dJx4a65c_get_915e3_0 rfl rfl (pc' := 1) rfl ?_
  refine j_aload_n (j := 0) cx dJx4a65c_get_915e3_1 rfl rfl (pc' := 2) rfl ?_
  refine j_get (fk := 2) (ref := "java/util/ArrayList") (v := .int (S k 0 2)) cx hT rfl (by decide +kernel) (by decide) (by decide +kernel) (fun _ h => h) (yV_i ht2) rfl dJx4a65c_get_915e3_2 (pc' := 5) rfl ?_
  refine j_cSR (cells1 := 0) (slots1 := 0) (st1 := [.int (nI i)]) (As := [.int (nI i), .int (S k 0 2)]) (rest := []) cx (c_ci15 h0 h1) gJx4a65c_get_915e3_J15_checkIndex_7cf53 rfl rfl rfl 2 rfl (by decide +kernel) ⟨Nat.le_of_ble_eq_true rfl, Nat.le_of_ble_eq_true rfl⟩ rfl (Nat.le_of_ble_eq_true rfl) dJx4a65c_get_915e3_5 ⟨Nat.le_of_ble_eq_true rfl, Nat.le_of_ble_eq_true rfl⟩ (pc' := 8) rfl rfl rfl rfl ?_
  refine j_pop cx dJx4a65c_get_915e3_8 rfl (pc' := 9) rfl ?_
  refine j_aload_n (j := 0) cx dJx4a65c_get_915e3_9 rfl rfl (pc' := 10) rfl ?_
  refine j_iload_n (j := 1) cx dJx4a65c_get_915e3_10 rfl rfl (pc' := 11) rfl ?_
  refine j_cVR (cells1 := 0) (slots1 := 0) (st1 := [.ref r]) (As := [.int (nI i)]) (rest := []) cx (c_ed hT ht0 ht2 ht1 hA hi hn hc hf) gJx4a65c_get_915e3_Jx4a65c_elementData_915e3 rfl rfl rfl 1 rfl (by decide +kernel) ⟨Nat.le_of_ble_eq_true rfl, Nat.le_of_ble_eq_true rfl⟩ hT rfl rfl rfl rfl (Nat.le_of_ble_eq_true rfl) dJx4a65c_get_915e3_11 ⟨Nat.le_of_ble_eq_true rfl, Nat.le_of_ble_eq_true rfl⟩ (pc' := 14) rfl rfl rfl rfl ?_
  exact j_aret cx hlk hr (Or.inl ⟨_, rfl⟩) (Nat.le_of_ble_eq_true rfl) (Nat.le_of_ble_eq_true rfl) dJx4a65c_get_915e3_14 ⟨rfl, rfl, rfl, rfl⟩
theorem YL.size {l : Launch} {Z : yL} {al : yAl} {sh : ySh} {S : yS} {k kd n : Nat} (h : YL Z al sh k kd n) (hs : S k 0 2 = nI n) : Ct l yJx4a65c_size_8abf5 wsJx4a65c_size_8abf5 ({ frames := 0, cells := 0, slots := 0, locals := 0 }) 0 0 Z [.ref (al k 0)] al sh S (yR al sh (some (.int (nI n))) S) := by
  obtain ⟨tg, h1, h2, h3, -⟩ := h
  rw [← hs]
  exact c_size h1 h2 h3
theorem YL.obj {Z : yL} {al : yAl} {sh : ySh} {k kd n : Nat} (h : YL Z al sh k kd n) : ∃ tg, sh k 0 = some (.inl (2, tg)) := by
  obtain ⟨tg, h1, -⟩ := h
  exact ⟨tg, h1⟩
theorem YL.get {l : Launch} {Z : yL} {al : yAl} {sh : ySh} {S : yS} {k kd n i : Nat} (h : YL Z al sh k kd n) (hs : S k 0 2 = nI n) (hi : i < n) : Ct l yJx4a65c_get_915e3 wsJx4a65c_get_915e3 ({ frames := 2, cells := 0, slots := 0, locals := 43 }) 0 0 Z [.ref (al k 0), .int (nI i)] al sh S (yR al sh (some (.ref (al kd i))) S) := by
  obtain ⟨tg, h1, h2, h3, h4 | ⟨c, f, g1, g2, g3, g4, g5, g6, -⟩⟩ := h
  · omega
  · exact c_get h1 h2 h3 g4 g5 hi g1 g3 (g6 i hi) hs

