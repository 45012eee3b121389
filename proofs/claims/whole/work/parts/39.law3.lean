set_option maxHeartbeats 4000000 in
set_option maxRecDepth 100000 in
theorem l_time {p : Program} {l : Launch} {e : Env} {R : Room} {s : State} {m : MethodId} {args : Array Value} {below : List Frame} {meth : Method} {c : Code} {cells slots : Nat} {Q : State → Prop} {Z : yL} {al : yAl} {sh : ySh} {S : yS} {b L t K x0 m0 o0 d0 : Nat} {xs : Nat → Int32} (hl0 : l.stackTraces = false) (cx : Cx p s m args c code 9 RL wsL_law Z) (hX : va_X b L xs s s.heap) (hb0 : b < s.heap.size ∧ ¬ Z.2.2.1 ≤ b) (hR : 20 ≤ R.frames ∧ 10000 ≤ R.locals ∧ cells + 20 ≤ R.cells ∧ slots + 300 ≤ R.slots) (ht : 4 * t + 4 ≤ L ∧ L ≤ 2048) (hW : WI Z x0 m0 o0 d0 K al sh S) (hp : ∀ nm ns mu, IN S nm ns mu K → ∀ k, IN (sup S 40 0 0 k) nm ns mu (K + 5000)) (hk : ∀ al9 sh9 S9, WI Z x0 m0 o0 d0 (K + 5000) al9 sh9 S9 → J p l e R s m args below meth c 9 Z (cells + 20) (slots + 300) Q al9 sh9 S9 1884 [(0, .ref b), (1, .ref x0), (2, .ref m0), (3, .ref o0), (4, .ref d0), (5, .int (nI (4 * t)))] []) : J p l e R s m args below meth c 9 Z cells slots Q al sh S 1740 [(0, .ref b), (1, .ref x0), (2, .ref m0), (3, .ref o0), (4, .ref d0), (5, .int (nI (4 * t)))] [] := by
  obtain ⟨rfl, rfl, rfl, rfl, ⟨fo, hO⟩, hD, hXM, nm, ns, mu, hY, hFr, hN⟩ := hW
  obtain ⟨n1, n2, n3, n4, n5, n6, n7, n8, n9, n10, n11, n12, n13, n14, n15, n16, n17, n18, n19, n20⟩ := id hN
  refine j_aload_n (j := 1) cx dL_law_1740 rfl rfl (pc' := 1741) rfl ?_
  refine j_cVP (cells1 := cells) (slots1 := slots) (As := []) (rest := []) cx (c_X2_time hY) gL_law_X2_time rfl rfl rfl 0 rfl (by decide +kernel) ⟨(by show 0 + 1 ≤ _; omega), (by show 8 + (1 + 11) + 0 ≤ _; omega)⟩ hY.1 rfl rfl rfl rfl (Nat.le_of_ble_eq_true rfl) dL_law_1741 ⟨by omega, by omega⟩ (pc' := 1744) rfl rfl rfl (fun v9 al9 sh9 S9 h9 => ?_)
  obtain ⟨e1, e2, e3, e4⟩ := h9
  subst v9 al9 sh9 S9
  refine J.stk (st2 := [.int (S 40 0 1)]) (congrArg (fun z => [Value.int z]) n4) ?_
  refine j_aload_n (j := 2) cx dL_law_1744 rfl rfl (pc' := 1745) rfl ?_
  refine j_cVP (cells1 := cells) (slots1 := slots) (As := []) (rest := [.int (S 40 0 1)]) cx (c_X3_time hXM) gL_law_X3_time rfl rfl rfl 0 rfl (by decide +kernel) ⟨(by show 0 + 1 ≤ _; omega), (by show 8 + (1 + 11) + 0 ≤ _; omega)⟩ hXM.1 rfl rfl rfl rfl (Nat.le_of_ble_eq_true rfl) dL_law_1745 ⟨by omega, by omega⟩ (pc' := 1748) rfl rfl rfl (fun v9 al9 sh9 S9 h9 => ?_)
  obtain ⟨e1, e2, e3, e4⟩ := h9
  subst v9 al9 sh9 S9
  refine J.stk (st2 := [.int (S 40 0 1), .int (S 40 0 1)]) rfl ?_
  refine j_icmp_eq (tgt := 1884) cx dL_law_1748 (by decide) (pc' := 1751) rfl (fun _ => ?_) (fun h => absurd rfl h)
  refine J.sub [0, 1, 2, 3, 4, 5] rfl (J.widen (k := cells + 20) (n := slots + 300) (by omega) (by omega) (hk _ _ _ ?_))
  exact ⟨rfl, rfl, rfl, rfl, ⟨fo, hO⟩, hD, hXM, nm, ns, mu, hY, hFr, hp nm ns mu hN 0⟩
set_option maxHeartbeats 4000000 in
set_option maxRecDepth 100000 in
theorem l_pageShare {p : Program} {l : Launch} {e : Env} {R : Room} {s : State} {m : MethodId} {args : Array Value} {below : List Frame} {meth : Method} {c : Code} {cells slots : Nat} {Q : State → Prop} {Z : yL} {al : yAl} {sh : ySh} {S : yS} {b L t K x0 m0 o0 d0 : Nat} {xs : Nat → Int32} (hl0 : l.stackTraces = false) (cx : Cx p s m args c code 9 RL wsL_law Z) (hX : va_X b L xs s s.heap) (hb0 : b < s.heap.size ∧ ¬ Z.2.2.1 ≤ b) (hR : 20 ≤ R.frames ∧ 10000 ≤ R.locals ∧ cells + 20 ≤ R.cells ∧ slots + 300 ≤ R.slots) (ht : 4 * t + 4 ≤ L ∧ L ≤ 2048) (hW : WI Z x0 m0 o0 d0 K al sh S) (hp : ∀ nm ns mu, IN S nm ns mu K → ∀ k, IN (sup S 40 0 0 k) nm ns mu (K + 5000)) (hk : ∀ al9 sh9 S9, WI Z x0 m0 o0 d0 (K + 5000) al9 sh9 S9 → J p l e R s m args below meth c 9 Z (cells + 20) (slots + 300) Q al9 sh9 S9 1884 [(0, .ref b), (1, .ref x0), (2, .ref m0), (3, .ref o0), (4, .ref d0), (5, .int (nI (4 * t)))] []) : J p l e R s m args below meth c 9 Z cells slots Q al sh S 1753 [(0, .ref b), (1, .ref x0), (2, .ref m0), (3, .ref o0), (4, .ref d0), (5, .int (nI (4 * t)))] [] := by
  obtain ⟨rfl, rfl, rfl, rfl, hO, ⟨fo, hD⟩, hXM, nm, ns, mu, hY, hFr, hN⟩ := hW
  obtain ⟨n1, n2, n3, n4, n5, n6, n7, n8, n9, n10, n11, n12, n13, n14, n15, n16, n17, n18, n19, n20⟩ := id hN
  have hA : lSum S 0 0 ns = S 40 0 22 := (lSum_g S ns 0 0).trans n15.symm
  refine j_aload_n (j := 1) cx dL_law_1753 rfl rfl (pc' := 1754) rfl ?_
  refine j_aload (j := 4) cx dL_law_1754 rfl (pc' := 1756) rfl ?_
  refine j_cSW (cells1 := cells + 1) (slots1 := slots + 6) (As := [.ref (al 0 0), .ref (al 71 0)]) (rest := []) cx (c_L_pageShare hl0 hY hN.2.1.2.1 hD) gL_law_L_pageShare rfl rfl rfl 2 rfl (by decide +kernel) ⟨(by show 11 + 1 ≤ _; omega), (by show 8 + (3 + 11) + 197 ≤ _; omega)⟩ rfl (Nat.le_of_ble_eq_true rfl) dL_law_1756 ⟨by omega, by omega⟩ (pc' := 1759) rfl rfl rfl (fun v9 al9 sh9 S9 h9 => ?_)
  rw [hA, n5] at h9
  obtain ⟨e1, e2, e4, h9⟩ := h9
  subst v9 al9 S9
  by_cases hk0 : (kAll (S 40 0 22)) = 0
  · rw [if_pos hk0] at h9
    subst sh9
    refine J.stk (st2 := [.int 0]) (congrArg (fun z => [Value.int z]) hk0) ?_
    have hXM1 : YM Z (shp sh 71 0 (yDo Z (vf_upd fo 0 (FP.f2d (FP.fdiv (FP.i2f (S 40 0 21)) (FP.i2f (S 40 0 22))))))) := hXM.out (by decide)
    refine j_istore (lv' := [(6, .int 0), (0, .ref b), (1, .ref (al 0 0)), (2, .ref (al 40 0)), (3, .ref (al 70 0)), (4, .ref (al 71 0)), (5, .int (nI (4 * t)))]) cx dL_law_1759 (by decide) rfl (pc' := 1761) rfl ?_
    refine j_aload_n (j := 3) cx dL_law_1761 rfl rfl (pc' := 1762) rfl ?_
    refine j_cVP (cells1 := cells + 1 + 0) (slots1 := slots + 6 + 0) (As := []) (rest := []) cx (c_X3_pageShare hXM1 hN.1) gL_law_X3_pageShare rfl rfl rfl 0 rfl (by decide +kernel) ⟨(by show 1 + 1 ≤ _; omega), (by show 8 + (1 + 11) + 21 ≤ _; omega)⟩ hXM1.1 rfl rfl rfl rfl (Nat.le_of_ble_eq_true rfl) dL_law_1762 ⟨by omega, by omega⟩ (pc' := 1765) rfl rfl rfl (fun v9 al9 sh9 S9 h9 => ?_)
    obtain ⟨e1, e2, h9⟩ := h9
    subst al9 sh9
    rw [if_pos hk0] at h9
    obtain ⟨e5, e6⟩ := h9
    subst v9 S9
    refine J.stk (st2 := [.float (FP.fdiv (FP.i2f (S 40 0 21)) (FP.i2f (S 40 0 22)))]) rfl ?_
    refine j_fstore (lv' := [(7, .float (FP.fdiv (FP.i2f (S 40 0 21)) (FP.i2f (S 40 0 22)))), (6, .int 0), (0, .ref b), (1, .ref (al 0 0)), (2, .ref (al 40 0)), (3, .ref (al 70 0)), (4, .ref (al 71 0)), (5, .int (nI (4 * t)))]) cx dL_law_1765 (by decide) rfl (pc' := 1767) rfl ?_
    refine j_aload_n (j := 4) cx dL_law_1767 rfl rfl (pc' := 1768) rfl ?_
    refine j_cVP (cells1 := cells + 1 + 0 + 0) (slots1 := slots + 6 + 0 + 0) (As := []) (rest := []) cx (c_X3_thrown hXM1) gL_law_X3_thrown rfl rfl rfl 0 rfl (by decide +kernel) ⟨(by show 0 + 1 ≤ _; omega), (by show 8 + (1 + 11) + 0 ≤ _; omega)⟩ hXM1.1 rfl rfl rfl rfl (Nat.le_of_ble_eq_true rfl) dL_law_1768 ⟨by omega, by omega⟩ (pc' := 1771) rfl rfl rfl (fun v9 al9 sh9 S9 h9 => ?_)
    obtain ⟨e1, e2, e3, e4⟩ := h9
    subst v9 al9 sh9 S9
    refine J.stk (st2 := [.int 0]) (congrArg (fun z => [Value.int z]) (sup_self _ _ _ _ _)) ?_
    refine j_iload (j := 1) cx dL_law_1771 rfl (pc' := 1773) rfl ?_
    refine j_icmp_eq (tgt := 1778) cx dL_law_1773 (by decide) (pc' := 1776) rfl (fun _ => ?_) (fun h => absurd rfl h)
    refine j_iload (j := 1) cx dL_law_1778 rfl (pc' := 1780) rfl ?_
    refine j_if_ne (tgt := 1816) cx dL_law_1780 (by decide) (pc' := 1783) rfl (fun h => absurd rfl h) (fun _ => ?_)
    refine j_aload (j := 6) cx dL_law_1783 rfl (pc' := 1785) rfl ?_
    refine j_iconst (v := 0) cx dL_law_1785 (by decide) (pc' := 1786) rfl ?_
    refine j_daldX cx (shp_self _ _ _ _) rfl rfl dL_law_1786 (pc' := 1787) rfl ?_
    refine j_fload (j := 0) cx dL_law_1787 rfl (pc' := 1789) rfl ?_
    refine j_f2d cx dL_law_1789 (fd_n (fq_mag _ (kAll_ne hk0))) (pc' := 1790) rfl ?_
    refine j_dcmp cx dL_law_1790 (pc' := 1791) rfl ?_
    refine j_if_eq (tgt := 1816) cx dL_law_1791 (by decide) (pc' := 1794) rfl (fun _ => ?_) (fun h => absurd (cmp_self64 (fd_n (fq_mag _ (kAll_ne hk0)))) h)
    refine j_goto (tgt := 1884) cx dL_law_1816 (by decide) ?_
    refine J.sub [2, 3, 4, 5, 6, 7] rfl (J.widen (k := cells + 20) (n := slots + 300) (by omega) (by omega) (hk _ _ _ ?_))
    exact ⟨rfl, rfl, rfl, rfl, hO.imp (fun f hf => (shp_ne _ _ (by omega)).trans hf), ⟨_, shp_self _ _ _ _⟩, hXM1, nm, ns, mu, hY.out (by decide), hFr.out (by decide), hp nm ns mu hN _⟩
  · rw [if_neg hk0] at h9
    subst sh9
    have hXM1 := hXM
    refine J.stk (st2 := [.int (kAll (S 40 0 22))]) rfl ?_
    refine j_istore (lv' := [(6, .int (kAll (S 40 0 22))), (0, .ref b), (1, .ref (al 0 0)), (2, .ref (al 40 0)), (3, .ref (al 70 0)), (4, .ref (al 71 0)), (5, .int (nI (4 * t)))]) cx dL_law_1759 (by decide) rfl (pc' := 1761) rfl ?_
    refine j_aload_n (j := 3) cx dL_law_1761 rfl rfl (pc' := 1762) rfl ?_
    refine j_cVP (cells1 := cells + 1 + 0) (slots1 := slots + 6 + 0) (As := []) (rest := []) cx (c_X3_pageShare hXM1 hN.1) gL_law_X3_pageShare rfl rfl rfl 0 rfl (by decide +kernel) ⟨(by show 1 + 1 ≤ _; omega), (by show 8 + (1 + 11) + 21 ≤ _; omega)⟩ hXM1.1 rfl rfl rfl rfl (Nat.le_of_ble_eq_true rfl) dL_law_1762 ⟨by omega, by omega⟩ (pc' := 1765) rfl rfl rfl (fun v9 al9 sh9 S9 h9 => ?_)
    obtain ⟨e1, e2, h9⟩ := h9
    subst al9 sh9
    rw [if_neg hk0] at h9
    obtain ⟨e5, e6⟩ := h9
    subst v9 S9
    refine J.stk (st2 := [.float 0]) rfl ?_
    refine j_fstore (lv' := [(7, .float 0), (6, .int (kAll (S 40 0 22))), (0, .ref b), (1, .ref (al 0 0)), (2, .ref (al 40 0)), (3, .ref (al 70 0)), (4, .ref (al 71 0)), (5, .int (nI (4 * t)))]) cx dL_law_1765 (by decide) rfl (pc' := 1767) rfl ?_
    refine j_aload_n (j := 4) cx dL_law_1767 rfl rfl (pc' := 1768) rfl ?_
    refine j_cVP (cells1 := cells + 1 + 0 + 0) (slots1 := slots + 6 + 0 + 0) (As := []) (rest := []) cx (c_X3_thrown hXM1) gL_law_X3_thrown rfl rfl rfl 0 rfl (by decide +kernel) ⟨(by show 0 + 1 ≤ _; omega), (by show 8 + (1 + 11) + 0 ≤ _; omega)⟩ hXM1.1 rfl rfl rfl rfl (Nat.le_of_ble_eq_true rfl) dL_law_1768 ⟨by omega, by omega⟩ (pc' := 1771) rfl rfl rfl (fun v9 al9 sh9 S9 h9 => ?_)
    obtain ⟨e1, e2, e3, e4⟩ := h9
    subst v9 al9 sh9 S9
    refine J.stk (st2 := [.int (kAll (S 40 0 22))]) (congrArg (fun z => [Value.int z]) (sup_self _ _ _ _ _)) ?_
    refine j_iload (j := 1) cx dL_law_1771 rfl (pc' := 1773) rfl ?_
    refine j_icmp_eq (tgt := 1778) cx dL_law_1773 (by decide) (pc' := 1776) rfl (fun _ => ?_) (fun h => absurd rfl h)
    refine j_iload (j := 1) cx dL_law_1778 rfl (pc' := 1780) rfl ?_
    refine j_if_ne (tgt := 1816) cx dL_law_1780 (by decide) (pc' := 1783) rfl (fun _ => ?_) (fun h => absurd h hk0)
    refine j_goto (tgt := 1884) cx dL_law_1816 (by decide) ?_
    refine J.sub [2, 3, 4, 5, 6, 7] rfl (J.widen (k := cells + 20) (n := slots + 300) (by omega) (by omega) (hk _ _ _ ?_))
    exact ⟨rfl, rfl, rfl, rfl, hO, ⟨fo, hD⟩, hXM1, nm, ns, mu, hY, hFr, hp nm ns mu hN _⟩
set_option maxHeartbeats 4000000 in
set_option maxRecDepth 100000 in
theorem l_meanCharge {p : Program} {l : Launch} {e : Env} {R : Room} {s : State} {m : MethodId} {args : Array Value} {below : List Frame} {meth : Method} {c : Code} {cells slots : Nat} {Q : State → Prop} {Z : yL} {al : yAl} {sh : ySh} {S : yS} {b L t K x0 m0 o0 d0 : Nat} {xs : Nat → Int32} (hl0 : l.stackTraces = false) (cx : Cx p s m args c code 9 RL wsL_law Z) (hX : va_X b L xs s s.heap) (hb0 : b < s.heap.size ∧ ¬ Z.2.2.1 ≤ b) (hR : 20 ≤ R.frames ∧ 10000 ≤ R.locals ∧ cells + 20 ≤ R.cells ∧ slots + 300 ≤ R.slots) (ht : 4 * t + 4 ≤ L ∧ L ≤ 2048) (hW : WI Z x0 m0 o0 d0 K al sh S) (hp : ∀ nm ns mu, IN S nm ns mu K → ∀ k, IN (sup S 40 0 0 k) nm ns mu (K + 5000)) (hk : ∀ al9 sh9 S9, WI Z x0 m0 o0 d0 (K + 5000) al9 sh9 S9 → J p l e R s m args below meth c 9 Z (cells + 20) (slots + 300) Q al9 sh9 S9 1884 [(0, .ref b), (1, .ref x0), (2, .ref m0), (3, .ref o0), (4, .ref d0), (5, .int (nI (4 * t)))] []) : J p l e R s m args below meth c 9 Z cells slots Q al sh S 1819 [(0, .ref b), (1, .ref x0), (2, .ref m0), (3, .ref o0), (4, .ref d0), (5, .int (nI (4 * t)))] [] := by
  obtain ⟨rfl, rfl, rfl, rfl, hO, ⟨fo, hD⟩, hXM, nm, ns, mu, hY, hFr, hN⟩ := hW
  obtain ⟨n1, n2, n3, n4, n5, n6, n7, n8, n9, n10, n11, n12, n13, n14, n15, n16, n17, n18, n19, n20⟩ := id hN
  have hA : lSum S 0 0 ns = S 40 0 22 := (lSum_g S ns 0 0).trans n15.symm
  refine j_aload_n (j := 1) cx dL_law_1819 rfl rfl (pc' := 1820) rfl ?_
  refine j_aload (j := 4) cx dL_law_1820 rfl (pc' := 1822) rfl ?_
  refine j_cSW (cells1 := cells + 1) (slots1 := slots + 6) (As := [.ref (al 0 0), .ref (al 71 0)]) (rest := []) cx (c_L_meanCharge hl0 hY hN.2.1.2.1 hD) gL_law_L_meanCharge rfl rfl rfl 2 rfl (by decide +kernel) ⟨(by show 11 + 1 ≤ _; omega), (by show 8 + (3 + 11) + 197 ≤ _; omega)⟩ rfl (Nat.le_of_ble_eq_true rfl) dL_law_1822 ⟨by omega, by omega⟩ (pc' := 1825) rfl rfl rfl (fun v9 al9 sh9 S9 h9 => ?_)
  rw [hA] at h9
  obtain ⟨e1, e2, e4, h9⟩ := h9
  subst v9 al9 S9
  by_cases hk0 : (kAll (nI ns)) = 0
  · rw [if_pos hk0] at h9
    subst sh9
    refine J.stk (st2 := [.int 0]) (congrArg (fun z => [Value.int z]) hk0) ?_
    have hXM1 : YM Z (shp sh 71 0 (yDo Z (vf_upd fo 0 (FP.ddiv (FP.i2d (S 40 0 22)) (FP.i2d (nI ns)))))) := hXM.out (by decide)
    refine j_istore (lv' := [(6, .int 0), (0, .ref b), (1, .ref (al 0 0)), (2, .ref (al 40 0)), (3, .ref (al 70 0)), (4, .ref (al 71 0)), (5, .int (nI (4 * t)))]) cx dL_law_1825 (by decide) rfl (pc' := 1827) rfl ?_
    refine j_aload_n (j := 3) cx dL_law_1827 rfl rfl (pc' := 1828) rfl ?_
    refine j_cVP (cells1 := cells + 1 + 0) (slots1 := slots + 6 + 0) (As := []) (rest := []) cx (c_X3_meanCharge hXM1 hN.1) gL_law_X3_meanCharge rfl rfl rfl 0 rfl (by decide +kernel) ⟨(by show 1 + 1 ≤ _; omega), (by show 8 + (1 + 11) + 21 ≤ _; omega)⟩ hXM1.1 rfl rfl rfl rfl (Nat.le_of_ble_eq_true rfl) dL_law_1828 ⟨by omega, by omega⟩ (pc' := 1831) rfl rfl rfl (fun v9 al9 sh9 S9 h9 => ?_)
    obtain ⟨e1, e2, h9⟩ := h9
    subst al9 sh9
    rw [if_pos hk0] at h9
    obtain ⟨e5, e6⟩ := h9
    subst v9 S9
    refine J.stk (st2 := [.double (FP.ddiv (FP.i2d (S 40 0 22)) (FP.i2d (nI ns)))]) rfl ?_
    refine j_dstore (lv' := [(7, .double (FP.ddiv (FP.i2d (S 40 0 22)) (FP.i2d (nI ns)))), (6, .int 0), (0, .ref b), (1, .ref (al 0 0)), (2, .ref (al 40 0)), (3, .ref (al 70 0)), (4, .ref (al 71 0)), (5, .int (nI (4 * t)))]) cx dL_law_1831 (by decide) rfl (pc' := 1833) rfl ?_
    refine j_aload_n (j := 4) cx dL_law_1833 rfl rfl (pc' := 1834) rfl ?_
    refine j_cVP (cells1 := cells + 1 + 0 + 0) (slots1 := slots + 6 + 0 + 0) (As := []) (rest := []) cx (c_X3_thrown hXM1) gL_law_X3_thrown rfl rfl rfl 0 rfl (by decide +kernel) ⟨(by show 0 + 1 ≤ _; omega), (by show 8 + (1 + 11) + 0 ≤ _; omega)⟩ hXM1.1 rfl rfl rfl rfl (Nat.le_of_ble_eq_true rfl) dL_law_1834 ⟨by omega, by omega⟩ (pc' := 1837) rfl rfl rfl (fun v9 al9 sh9 S9 h9 => ?_)
    obtain ⟨e1, e2, e3, e4⟩ := h9
    subst v9 al9 sh9 S9
    refine J.stk (st2 := [.int 0]) (congrArg (fun z => [Value.int z]) (sup_self _ _ _ _ _)) ?_
    refine j_iload (j := 1) cx dL_law_1837 rfl (pc' := 1839) rfl ?_
    refine j_icmp_eq (tgt := 1844) cx dL_law_1839 (by decide) (pc' := 1842) rfl (fun _ => ?_) (fun h => absurd rfl h)
    refine j_iload (j := 1) cx dL_law_1844 rfl (pc' := 1846) rfl ?_
    refine j_if_ne (tgt := 1881) cx dL_law_1846 (by decide) (pc' := 1849) rfl (fun h => absurd rfl h) (fun _ => ?_)
    refine j_aload (j := 6) cx dL_law_1849 rfl (pc' := 1851) rfl ?_
    refine j_iconst (v := 0) cx dL_law_1851 (by decide) (pc' := 1852) rfl ?_
    refine j_daldX cx (shp_self _ _ _ _) rfl rfl dL_law_1852 (pc' := 1853) rfl ?_
    refine j_dload (j := 0) cx dL_law_1853 rfl (pc' := 1855) rfl ?_
    refine j_dcmp cx dL_law_1855 (pc' := 1856) rfl ?_
    refine j_if_eq (tgt := 1881) cx dL_law_1856 (by decide) (pc' := 1859) rfl (fun _ => ?_) (fun h => absurd (cmp_self64 (dq_n _ (kAll_ne hk0))) h)
    refine j_goto (tgt := 1884) cx dL_law_1881 (by decide) ?_
    refine J.sub [2, 3, 4, 5, 6, 7] rfl (J.widen (k := cells + 20) (n := slots + 300) (by omega) (by omega) (hk _ _ _ ?_))
    exact ⟨rfl, rfl, rfl, rfl, hO.imp (fun f hf => (shp_ne _ _ (by omega)).trans hf), ⟨_, shp_self _ _ _ _⟩, hXM1, nm, ns, mu, hY.out (by decide), hFr.out (by decide), hp nm ns mu hN _⟩
  · rw [if_neg hk0] at h9
    subst sh9
    have hXM1 := hXM
    refine J.stk (st2 := [.int (kAll (nI ns))]) rfl ?_
    refine j_istore (lv' := [(6, .int (kAll (nI ns))), (0, .ref b), (1, .ref (al 0 0)), (2, .ref (al 40 0)), (3, .ref (al 70 0)), (4, .ref (al 71 0)), (5, .int (nI (4 * t)))]) cx dL_law_1825 (by decide) rfl (pc' := 1827) rfl ?_
    refine j_aload_n (j := 3) cx dL_law_1827 rfl rfl (pc' := 1828) rfl ?_
    refine j_cVP (cells1 := cells + 1 + 0) (slots1 := slots + 6 + 0) (As := []) (rest := []) cx (c_X3_meanCharge hXM1 hN.1) gL_law_X3_meanCharge rfl rfl rfl 0 rfl (by decide +kernel) ⟨(by show 1 + 1 ≤ _; omega), (by show 8 + (1 + 11) + 21 ≤ _; omega)⟩ hXM1.1 rfl rfl rfl rfl (Nat.le_of_ble_eq_true rfl) dL_law_1828 ⟨by omega, by omega⟩ (pc' := 1831) rfl rfl rfl (fun v9 al9 sh9 S9 h9 => ?_)
    obtain ⟨e1, e2, h9⟩ := h9
    subst al9 sh9
    rw [if_neg hk0] at h9
    obtain ⟨e5, e6⟩ := h9
    subst v9 S9
    refine J.stk (st2 := [.double 0]) rfl ?_
    refine j_dstore (lv' := [(7, .double 0), (6, .int (kAll (nI ns))), (0, .ref b), (1, .ref (al 0 0)), (2, .ref (al 40 0)), (3, .ref (al 70 0)), (4, .ref (al 71 0)), (5, .int (nI (4 * t)))]) cx dL_law_1831 (by decide) rfl (pc' := 1833) rfl ?_
    refine j_aload_n (j := 4) cx dL_law_1833 rfl rfl (pc' := 1834) rfl ?_
    refine j_cVP (cells1 := cells + 1 + 0 + 0) (slots1 := slots + 6 + 0 + 0) (As := []) (rest := []) cx (c_X3_thrown hXM1) gL_law_X3_thrown rfl rfl rfl 0 rfl (by decide +kernel) ⟨(by show 0 + 1 ≤ _; omega), (by show 8 + (1 + 11) + 0 ≤ _; omega)⟩ hXM1.1 rfl rfl rfl rfl (Nat.le_of_ble_eq_true rfl) dL_law_1834 ⟨by omega, by omega⟩ (pc' := 1837) rfl rfl rfl (fun v9 al9 sh9 S9 h9 => ?_)
    obtain ⟨e1, e2, e3, e4⟩ := h9
    subst v9 al9 sh9 S9
    refine J.stk (st2 := [.int (kAll (nI ns))]) (congrArg (fun z => [Value.int z]) (sup_self _ _ _ _ _)) ?_
    refine j_iload (j := 1) cx dL_law_1837 rfl (pc' := 1839) rfl ?_
    refine j_icmp_eq (tgt := 1844) cx dL_law_1839 (by decide) (pc' := 1842) rfl (fun _ => ?_) (fun h => absurd rfl h)
    refine j_iload (j := 1) cx dL_law_1844 rfl (pc' := 1846) rfl ?_
    refine j_if_ne (tgt := 1881) cx dL_law_1846 (by decide) (pc' := 1849) rfl (fun _ => ?_) (fun h => absurd h hk0)
    refine j_goto (tgt := 1884) cx dL_law_1881 (by decide) ?_
    refine J.sub [2, 3, 4, 5, 6, 7] rfl (J.widen (k := cells + 20) (n := slots + 300) (by omega) (by omega) (hk _ _ _ ?_))
    exact ⟨rfl, rfl, rfl, rfl, hO, ⟨fo, hD⟩, hXM1, nm, ns, mu, hY, hFr, hp nm ns mu hN _⟩
