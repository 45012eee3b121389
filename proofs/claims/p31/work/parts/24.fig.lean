theorem nI_6 {n : Nat} (h : n ≤ 1000) {m : Nat} (hm : m ≤ 1000) : nI n = nI m ↔ n = m := by
  constructor
  · intro q
    have := congrArg Int32.toNatClampNeg q
    rwa [nI_clamp (by omega), nI_clamp (by omega)] at this
  · rintro rfl; rfl

theorem n32_of {r : UInt32} (h : r.toNat % 2 ^ 31 ≤ 2139095040) : vf_n32 r := by
  unfold vf_n32
  rw [UInt32.le_iff_toNat_le, UInt32.toNat_and]
  show r.toNat &&& (2 ^ 31 - 1) ≤ 2139095040
  rw [Nat.and_two_pow_sub_one_eq_mod]
  exact h
theorem n64_of {r : UInt64} (h : r.toNat % 2 ^ 63 ≤ 9218868437227405312) : vf_n64 r := by
  unfold vf_n64
  rw [UInt64.le_iff_toNat_le, UInt64.toNat_and]
  show r.toNat &&& (2 ^ 63 - 1) ≤ 9218868437227405312
  rw [Nat.and_two_pow_sub_one_eq_mod]
  exact h
theorem fq_mag (a : Int32) {b : Int32} (hb : b ≠ 0) : (FP.fdiv (FP.i2f a) (FP.i2f b)).toNat % 2 ^ 31 ≤ 2139095040 := by
  rw [Jvm.FP.fdiv_core, Jvm.FP.i2f_core]
  have h1 := Jvm.FP.Core.i2f_big (Jvm.FP.Core.int32_ne hb)
  have h2 := Jvm.FP.Core.fdiv_mag (Jvm.FP.Core.i2f_mag a) h1.1 h1.2 (by decide) (by decide)
  omega
theorem fq_n (a : Int32) {b : Int32} (hb : b ≠ 0) : vf_n32 (FP.fdiv (FP.i2f a) (FP.i2f b)) := n32_of (fq_mag a hb)
theorem dq_n (a : Int32) {b : Int32} (hb : b ≠ 0) : vf_n64 (FP.ddiv (FP.i2d a) (FP.i2d b)) := by
  refine n64_of ?_
  rw [Jvm.FP.ddiv_core, Jvm.FP.i2d_core]
  have h1 := Jvm.FP.Core.i2d_big (Jvm.FP.Core.int32_ne hb)
  have h2 := Jvm.FP.Core.ddiv_mag (Jvm.FP.Core.i2d_mag a) h1.1 h1.2 (by decide) (by decide)
  omega
theorem fd_n {r : UInt32} (h : r.toNat % 2 ^ 31 ≤ 2139095040) : vf_n64 (FP.f2d r) := by
  refine n64_of ?_
  have h1 : ¬ Jvm.FP.dIsNaN (FP.f2d r) = true := by
    rw [Jvm.FP.f2d_nan]
    show ¬ Jvm.FP.Core.fIsNaN r = true
    rw [Jvm.FP.Core.isNaN_bits32]
    omega
  have h2 : ¬ Jvm.FP.Core.dIsNaN (FP.f2d r) = true := h1
  rw [Jvm.FP.Core.isNaN_bits] at h2
  omega
/-- a call of the reference that answers otherwise than with an int -/
def yMv (k : Int32) (al : yAl) (sh : ySh) (r z : Value) (S1 S : yS) : Option Value → yAl → ySh → yS → Prop := fun v9 al9 sh9 S9 => al9 = al ∧ sh9 = sh ∧ if k = 0 then v9 = some r ∧ S9 = S1 else v9 = some z ∧ S9 = sup S 40 0 0 k
theorem yMv_0 {k : Int32} {al : yAl} {sh : ySh} {r z x : Value} {S1 S T : yS} (hk : k = 0) (hr : x = r) (hS : T = S1) : yMv k al sh r z S1 S (some x) al sh T := by
  subst hr hS
  exact ⟨rfl, rfl, by rw [if_pos hk]; exact ⟨rfl, rfl⟩⟩
theorem yMv_n {k c : Int32} {al : yAl} {sh : ySh} {r z : Value} {S1 S : yS} (hk : k = c) (hc : c ≠ 0) : yMv k al sh r z S1 S (some z) al sh (sup S 40 0 0 c) := by
  subst hk
  exact ⟨rfl, rfl, by rw [if_neg hc]; exact ⟨rfl, rfl⟩⟩
theorem nI_eq0 {n : Nat} (hn : n ≤ 1000) : nI n = 0 ↔ n = 0 := nI_6 hn (m := 0) (by omega)
set_option maxHeartbeats 4000000 in
set_option maxRecDepth 100000 in
theorem c_X2_pageShare {l : Launch} (hl0 : l.stackTraces = false) {Z : yL} {al : yAl} {sh : ySh} {S : yS} {nm ns : Nat} {mu : Nat → Nat}  (hY : YC Z al sh nm ns mu) (hs11 : S 11 0 2 = nI ns) : Cq l yX2_pageShare wsX2_pageShare ({ frames := 6, cells := 1, slots := 6, locals := 90 }) 1 6 Z [.ref (al 0 0)] al sh S (yRp (kAll (lSum S 0 0 ns) = 0) al sh (some (.float (FP.fdiv (FP.i2f (S 0 0 10)) (FP.i2f (lSum S 0 0 ns))))) S) (yx [(1, xAR)] (kAll (lSum S 0 0 ns))) := by
  refine Cq.of (lv := [(0, .ref (al 0 0))]) (by decide) rfl (Nat.le_of_ble_eq_true rfl) rfl ?_
  intro p_ e_ s_ m_ below_ meth_ c_ cx hlk hr htb
  refine j_aload_n (j := 0) cx dX2_pageShare_0 rfl rfl (pc' := 1) rfl ?_
  refine j_cVR (cells1 := 0) (slots1 := 0) (st1 := [.int (lSum S 0 0 ns)]) (As := []) (rest := []) cx (c_X2_chargedToAllSessions hY hs11) gX2_pageShare_X2_chargedToAllSessions rfl rfl rfl 0 rfl (by decide +kernel) ⟨Nat.le_of_ble_eq_true rfl, Nat.le_of_ble_eq_true rfl⟩ hY.1 rfl rfl rfl rfl (Nat.le_of_ble_eq_true rfl) dX2_pageShare_1 ⟨Nat.le_of_ble_eq_true rfl, Nat.le_of_ble_eq_true rfl⟩ (pc' := 4) rfl rfl rfl rfl ?_
  refine j_istore_n (lv' := [(1, .int (lSum S 0 0 ns)), (0, .ref (al 0 0))]) cx dX2_pageShare_4 rfl (by decide) rfl (pc' := 5) rfl ?_
  refine j_iload_n (j := 0) cx dX2_pageShare_5 rfl rfl (pc' := 6) rfl ?_
  refine j_if_ne (tgt := 19) cx dX2_pageShare_6 (by decide) (pc' := 9) rfl (fun h2 => ?_) (fun h2 => ?_)
  · refine j_aload_n (j := 1) cx dX2_pageShare_19 rfl rfl (pc' := 20) rfl ?_
    refine j_get (fk := 10) (ref := "TerminalYard") (v := .int (S 0 0 10)) cx hY.1 rfl (by decide +kernel) (by decide) (by decide +kernel) (fun _ h => h) (yV_i rfl) rfl dX2_pageShare_20 (pc' := 23) rfl ?_
    refine j_i2f cx dX2_pageShare_23 (pc' := 24) rfl ?_
    refine j_iload_n (j := 0) cx dX2_pageShare_24 rfl rfl (pc' := 25) rfl ?_
    refine j_i2f cx dX2_pageShare_25 (pc' := 26) rfl ?_
    refine j_fdiv cx dX2_pageShare_26 (fq_n _ h2) (pc' := 27) rfl ?_
    exact J.ret _ (j_fret cx hlk hr (Nat.le_of_ble_eq_true rfl) (Nat.le_of_ble_eq_true rfl) dX2_pageShare_27 ⟨by simp [kAll, h2], rfl, rfl, rfl, rfl⟩)
  · exact j_throwS (ik := 240) (ic := 244) (is := 242) (cls := "java/lang/ArithmeticException") (text := "nothing was charged") (names := ["java/lang/RuntimeException", "java/lang/Exception"]) cx hl0 hlk htb rfl (by decide) (by decide) (by decide) (by decide +kernel) (by decide +kernel) (by decide +kernel) (by decide +kernel) (by decide +kernel) dX2_pageShare_9 dX2_pageShare_12 dX2_pageShare_13 dX2_pageShare_15 dX2_pageShare_18 (Nat.le_of_ble_eq_true rfl) (Nat.le_of_ble_eq_true rfl) (Nat.le_of_ble_eq_true rfl) (Nat.le_of_ble_eq_true rfl) (Nat.le_of_ble_eq_true rfl) (Nat.le_of_ble_eq_true rfl) ⟨(1, xAR), by simp, rfl, by simp [kAll]; first | exact h2 | simp [h2]⟩
set_option maxHeartbeats 4000000 in
set_option maxRecDepth 100000 in
theorem c_X2_meanCharge {l : Launch} (hl0 : l.stackTraces = false) {Z : yL} {al : yAl} {sh : ySh} {S : yS} {nm ns : Nat} {mu : Nat → Nat}  (hY : YC Z al sh nm ns mu) (hs11 : S 11 0 2 = nI ns) : Cq l yX2_meanCharge wsX2_meanCharge ({ frames := 6, cells := 1, slots := 6, locals := 90 }) 1 6 Z [.ref (al 0 0)] al sh S (yRp (kAll (nI ns) = 0) al sh (some (.double (FP.ddiv (FP.i2d (lSum S 0 0 ns)) (FP.i2d (nI ns))))) S) (yx [(1, xAR)] (kAll (nI ns))) := by
  obtain ⟨tg11, ht11⟩ := YL.obj hY.2.2.2.2.2.2.2.2.2.2.1
  refine Cq.of (lv := [(0, .ref (al 0 0))]) (by decide) rfl (Nat.le_of_ble_eq_true rfl) rfl ?_
  intro p_ e_ s_ m_ below_ meth_ c_ cx hlk hr htb
  refine j_aload_n (j := 0) cx dX2_meanCharge_0 rfl rfl (pc' := 1) rfl ?_
  refine j_get (fk := 8) (ref := "TerminalYard") (v := .ref (al 11 0)) cx hY.1 rfl (by decide +kernel) (by decide) (by decide +kernel) (fun _ h => h) (yV_r (k := (11, 0)) rfl) rfl dX2_meanCharge_1 (pc' := 4) rfl ?_
  refine j_cVR (cells1 := 0) (slots1 := 0) (st1 := [.int (nI ns)]) (As := []) (rest := []) cx (YL.size hY.2.2.2.2.2.2.2.2.2.2.1 hs11) gX2_meanCharge_Jx4a65c_size_8abf5 rfl rfl rfl 0 rfl (by decide +kernel) ⟨Nat.le_of_ble_eq_true rfl, Nat.le_of_ble_eq_true rfl⟩ ht11 rfl rfl rfl rfl (Nat.le_of_ble_eq_true rfl) dX2_meanCharge_4 ⟨Nat.le_of_ble_eq_true rfl, Nat.le_of_ble_eq_true rfl⟩ (pc' := 7) rfl rfl rfl rfl ?_
  refine j_istore_n (lv' := [(1, .int (nI ns)), (0, .ref (al 0 0))]) cx dX2_meanCharge_7 rfl (by decide) rfl (pc' := 8) rfl ?_
  refine j_iload_n (j := 0) cx dX2_meanCharge_8 rfl rfl (pc' := 9) rfl ?_
  refine j_if_ne (tgt := 22) cx dX2_meanCharge_9 (by decide) (pc' := 12) rfl (fun h2 => ?_) (fun h2 => ?_)
  · refine j_aload_n (j := 1) cx dX2_meanCharge_22 rfl rfl (pc' := 23) rfl ?_
    refine j_cVR (cells1 := 0) (slots1 := 0) (st1 := [.int (lSum S 0 0 ns)]) (As := []) (rest := []) cx (c_X2_chargedToAllSessions hY hs11) gX2_meanCharge_X2_chargedToAllSessions rfl rfl rfl 0 rfl (by decide +kernel) ⟨Nat.le_of_ble_eq_true rfl, Nat.le_of_ble_eq_true rfl⟩ hY.1 rfl rfl rfl rfl (Nat.le_of_ble_eq_true rfl) dX2_meanCharge_23 ⟨Nat.le_of_ble_eq_true rfl, Nat.le_of_ble_eq_true rfl⟩ (pc' := 26) rfl rfl rfl rfl ?_
    refine j_i2d cx dX2_meanCharge_26 (pc' := 27) rfl ?_
    refine j_iload_n (j := 0) cx dX2_meanCharge_27 rfl rfl (pc' := 28) rfl ?_
    refine j_i2d cx dX2_meanCharge_28 (pc' := 29) rfl ?_
    refine j_ddiv cx dX2_meanCharge_29 (dq_n _ h2) (pc' := 30) rfl ?_
    exact J.ret _ (j_dret cx hlk hr (Nat.le_of_ble_eq_true rfl) (Nat.le_of_ble_eq_true rfl) dX2_meanCharge_30 ⟨by simp [kAll, h2], rfl, rfl, rfl, rfl⟩)
  · exact j_throwS (ik := 240) (ic := 244) (is := 245) (cls := "java/lang/ArithmeticException") (text := "there were no sessions") (names := ["java/lang/RuntimeException", "java/lang/Exception"]) cx hl0 hlk htb rfl (by decide) (by decide) (by decide) (by decide +kernel) (by decide +kernel) (by decide +kernel) (by decide +kernel) (by decide +kernel) dX2_meanCharge_12 dX2_meanCharge_15 dX2_meanCharge_16 dX2_meanCharge_18 dX2_meanCharge_21 (Nat.le_of_ble_eq_true rfl) (Nat.le_of_ble_eq_true rfl) (Nat.le_of_ble_eq_true rfl) (Nat.le_of_ble_eq_true rfl) (Nat.le_of_ble_eq_true rfl) (Nat.le_of_ble_eq_true rfl) ⟨(1, xAR), by simp, rfl, by simp [kAll]; first | exact h2 | simp [h2]⟩