def aLP (Z : yL) (al : yAl) (sh : ySh) (K : Int32) (f : Nat → Int64) (r : Int32) (post : yPost) (S : yS) : yPost := fun v9 al9 sh9 S9 => v9 = some (.int K) ∧ if K = 0 then ∃ sh0, sh9 = shp sh0 70 0 (yLo Z (vp_updL f 0 r.toInt64)) ∧ sh0 70 0 = some (yLo Z f) ∧ post (some (.int r)) al9 sh0 S9 else al9 = al ∧ sh9 = sh ∧ S9 = S
theorem aLP_0 {Z : yL} {al al9 : yAl} {sh sh0 : ySh} {K : Int32} {f : Nat → Int64} {r : Int32} {post : yPost} {S S9 : yS} (hk : K = 0) (h0 : sh0 70 0 = some (yLo Z f)) (h : post (some (.int r)) al9 sh0 S9) : aLP Z al sh K f r post S (some (.int 0)) al9 (shp sh0 70 0 (yLo Z (vp_updL f 0 r.toInt64))) S9 := by
  subst hk
  exact ⟨rfl, by rw [if_pos rfl]; exact ⟨sh0, rfl, h0, h⟩⟩
theorem aLP_n {Z : yL} {al : yAl} {sh : ySh} {K c : Int32} {f : Nat → Int64} {r : Int32} {post : yPost} {S : yS} (hk : K = c) (hc : c ≠ 0) : aLP Z al sh K f r post S (some (.int c)) al sh S := by
  subst hk
  exact ⟨rfl, by rw [if_neg hc]; exact ⟨rfl, rfl, rfl⟩⟩
def lD (Z : yL) (al : yAl) (sh : ySh) (k : Int32) (f : Nat → UInt64) (r : UInt64) (S : yS) : yPost := fun v9 al9 sh9 S9 => v9 = some (.int k) ∧ al9 = al ∧ S9 = S ∧ if k = 0 then sh9 = shp sh 71 0 (yDo Z (vf_upd f 0 r)) else sh9 = sh
theorem lD_0 {Z : yL} {al : yAl} {sh : ySh} {k : Int32} {f : Nat → UInt64} {r : UInt64} {S : yS} (hk : k = 0) : lD Z al sh k f r S (some (.int 0)) al (shp sh 71 0 (yDo Z (vf_upd f 0 r))) S := by
  subst hk
  exact ⟨rfl, rfl, rfl, by rw [if_pos rfl]⟩
theorem lD_n {Z : yL} {al : yAl} {sh : ySh} {k c : Int32} {f : Nat → UInt64} {r : UInt64} {S : yS} (hk : k = c) (hc : c ≠ 0) : lD Z al sh k f r S (some (.int c)) al sh S := by
  subst hk
  exact ⟨rfl, rfl, rfl, by rw [if_neg hc]⟩
theorem kAll_ne {a : Int32} (h : kAll a = 0) : a ≠ 0 := by
  intro q
  rw [q] at h
  revert h
  decide
set_option maxHeartbeats 4000000 in
set_option maxRecDepth 100000 in
theorem c_L_addMachine {l : Launch} (hl0 : l.stackTraces = false) {Z : yL} {al : yAl} {sh : ySh} {S : yS} {fo : Nat → Int64} {nm ns : Nat} {mu : Nat → Nat} {p r s : Int32} (hY : YC Z al sh nm ns mu) (hs9 : S 9 0 2 = nI nm) (hFr : yFree sh nm ns) (hO : sh 70 0 = some (yLo Z fo)) : Ct l yL_addMachine wsL_addMachine ({ frames := 8, cells := 3, slots := 78, locals := 195 }) 3 78 Z [.ref (al 0 0), .int p, .int r, .int s, .ref (al 70 0)] al sh S (aLP Z al sh (kAdd p r s nm) fo (nI nm) (aPost Z al sh S nm ns mu p r s) S) := by
  refine Ct.ofH (lv := [(0, .ref (al 0 0)), (1, .int p), (2, .int r), (3, .int s), (4, .ref (al 70 0))]) (by decide) rfl (Nat.le_of_ble_eq_true rfl) rfl ?_
  intro p_ e_ s_ m_ below_ meth_ c_ cx hlk hr htb
  refine j_aload (j := 4) cx dL_addMachine_0 rfl (pc' := 2) rfl ?_
  refine j_iconst (v := 0) cx dL_addMachine_2 (by decide) (pc' := 3) rfl ?_
  refine j_aload_n (j := 0) cx dL_addMachine_3 rfl rfl (pc' := 4) rfl ?_
  refine j_iload_n (j := 1) cx dL_addMachine_4 rfl rfl (pc' := 5) rfl ?_
  refine j_iload_n (j := 2) cx dL_addMachine_5 rfl rfl (pc' := 6) rfl ?_
  refine j_iload_n (j := 3) cx dL_addMachine_6 rfl rfl (pc' := 7) rfl ?_
  refine j_cVXP (cells1 := 3) (slots1 := 78) (As := [.int p, .int r, .int s]) (rest := [.int 0, .ref (al 70 0)]) cx (c_X2_addMachine hl0 hY hs9 hFr) gL_addMachine_X2_addMachine rfl rfl rfl 3 rfl (by decide +kernel) ⟨(Nat.le_of_ble_eq_true rfl), (Nat.le_of_ble_eq_true rfl)⟩ hY.1 rfl rfl rfl rfl (Nat.le_of_ble_eq_true rfl) dL_addMachine_7 ⟨(Nat.le_of_ble_eq_true rfl), (Nat.le_of_ble_eq_true rfl)⟩ (pc' := 10) rfl rfl rfl (fun E hE => ?_) (fun v9 al9 sh9 S9 h9 => ?_)
  · obtain ⟨q9, hq, hE2, hk⟩ := hE
    simp only [List.mem_cons, List.not_mem_nil, or_false] at hq
    rcases hq with rfl | rfl
    · subst hE2
      refine jx_catch cx htb [] ⟨0, 12, 15, 13⟩ [⟨0, 12, 19, 15⟩] rfl (by decide) (fun z hz => by cases hz) rfl (by decide) (by decide +kernel) (fun q => ?_)
      refine j_astore (lv' := (5, .ref q) :: [(0, .ref (al 0 0)), (1, .int p), (2, .int r), (3, .int s), (4, .ref (al 70 0))]) cx dL_addMachine_15 (by decide) rfl (pc' := 17) rfl ?_
      refine j_iconst (v := 1) cx dL_addMachine_17 (by decide) (pc' := 18) rfl ?_
      exact j_iret (ty := .int) cx hlk hr rfl (Nat.le_of_ble_eq_true rfl) (Nat.le_of_ble_eq_true rfl) dL_addMachine_18 (aLP_n hk (by decide))
    · subst hE2
      refine jx_catch cx htb [⟨0, 12, 15, 13⟩] ⟨0, 12, 19, 15⟩ [] rfl (by decide) (by intro z hz; simp only [List.mem_cons, List.not_mem_nil, or_false] at hz; rcases hz with rfl; exact ⟨by decide, "java/lang/IllegalArgumentException", by decide +kernel, by decide, by decide⟩) rfl (by decide) (by decide +kernel) (fun q => ?_)
      refine j_astore (lv' := (5, .ref q) :: [(0, .ref (al 0 0)), (1, .int p), (2, .int r), (3, .int s), (4, .ref (al 70 0))]) cx dL_addMachine_19 (by decide) rfl (pc' := 21) rfl ?_
      refine j_iconst (v := 2) cx dL_addMachine_21 (by decide) (pc' := 22) rfl ?_
      exact j_iret (ty := .int) cx hlk hr rfl (Nat.le_of_ble_eq_true rfl) (Nat.le_of_ble_eq_true rfl) dL_addMachine_22 (aLP_n hk (by decide))
  have h9c := h9
  obtain ⟨hk, e1, a1, a2, hk4, a4, -⟩ := h9
  subst v9
  refine J.stk (st2 := [.int (nI nm), .int 0, .ref (al 70 0)]) rfl ?_
  refine j_i2l cx dL_addMachine_10 rfl (pc' := 11) rfl ?_
  refine j_last (jn := 0) cx ((hk4 70 0 (by decide)).2.trans hO) rfl (by unfold vp_in; decide) rfl (hk4 70 0 (by decide)).1.symm dL_addMachine_11 (pc' := 12) rfl ?_
  refine j_goto (tgt := 23) cx dL_addMachine_12 (by decide) ?_
  refine j_iconst (v := 0) cx dL_addMachine_23 (by decide) (pc' := 24) rfl ?_
  exact j_iret (ty := .int) cx hlk hr rfl (Nat.le_of_ble_eq_true rfl) (Nat.le_of_ble_eq_true rfl) dL_addMachine_24 (aLP_0 hk ((hk4 70 0 (by decide)).2.trans hO) h9c)
set_option maxHeartbeats 4000000 in
set_option maxRecDepth 100000 in
theorem c_L_setLimits {l : Launch} (hl0 : l.stackTraces = false) {Z : yL} {al : yAl} {sh : ySh} {S : yS} {fo : Nat → Int64} {nm ns : Nat} {mu : Nat → Nat} {p i h : Int32} (hY : YC Z al sh nm ns mu) (hO : sh 70 0 = some (yLo Z fo)) : Ct l yL_setLimits wsL_setLimits ({ frames := 8, cells := 2, slots := 12, locals := 134 }) 2 12 Z [.ref (al 0 0), .int p, .int i, .int h, .ref (al 70 0)] al sh S (lP Z al sh (kSet p i h) fo (S 1 0 p.toNatClampNeg) (sup (sup S 1 0 p.toNatClampNeg i) 2 0 p.toNatClampNeg h) S) := by
  refine Ct.ofH (lv := [(0, .ref (al 0 0)), (1, .int p), (2, .int i), (3, .int h), (4, .ref (al 70 0))]) (by decide) rfl (Nat.le_of_ble_eq_true rfl) rfl ?_
  intro p_ e_ s_ m_ below_ meth_ c_ cx hlk hr htb
  refine j_aload (j := 4) cx dL_setLimits_0 rfl (pc' := 2) rfl ?_
  refine j_iconst (v := 0) cx dL_setLimits_2 (by decide) (pc' := 3) rfl ?_
  refine j_aload_n (j := 0) cx dL_setLimits_3 rfl rfl (pc' := 4) rfl ?_
  refine j_iload_n (j := 1) cx dL_setLimits_4 rfl rfl (pc' := 5) rfl ?_
  refine j_iload_n (j := 2) cx dL_setLimits_5 rfl rfl (pc' := 6) rfl ?_
  refine j_iload_n (j := 3) cx dL_setLimits_6 rfl rfl (pc' := 7) rfl ?_
  refine j_cVXP (cells1 := 2) (slots1 := 12) (As := [.int p, .int i, .int h]) (rest := [.int 0, .ref (al 70 0)]) cx (c_X2_setLimits hl0 hY) gL_setLimits_X2_setLimits rfl rfl rfl 3 rfl (by decide +kernel) ⟨(Nat.le_of_ble_eq_true rfl), (Nat.le_of_ble_eq_true rfl)⟩ hY.1 rfl rfl rfl rfl (Nat.le_of_ble_eq_true rfl) dL_setLimits_7 ⟨(Nat.le_of_ble_eq_true rfl), (Nat.le_of_ble_eq_true rfl)⟩ (pc' := 10) rfl rfl rfl (fun E hE => ?_) (fun v9 al9 sh9 S9 h9 => ?_)
  · obtain ⟨q9, hq, hE2, hk⟩ := hE
    simp only [List.mem_cons, List.not_mem_nil, or_false] at hq
    rcases hq with rfl
    · subst hE2
      refine jx_catch cx htb [] ⟨0, 12, 15, 13⟩ [] rfl (by decide) (fun z hz => by cases hz) rfl (by decide) (by decide +kernel) (fun q => ?_)
      refine j_astore (lv' := (5, .ref q) :: [(0, .ref (al 0 0)), (1, .int p), (2, .int i), (3, .int h), (4, .ref (al 70 0))]) cx dL_setLimits_15 (by decide) rfl (pc' := 17) rfl ?_
      refine j_iconst (v := 1) cx dL_setLimits_17 (by decide) (pc' := 18) rfl ?_
      exact j_iret (ty := .int) cx hlk hr rfl (Nat.le_of_ble_eq_true rfl) (Nat.le_of_ble_eq_true rfl) dL_setLimits_18 (lP_n hk (by decide))
  obtain ⟨hk, e1, e2, e3, e4⟩ := h9
  subst v9 al9 sh9 S9
  refine J.stk (st2 := [.int (S 1 0 p.toNatClampNeg), .int 0, .ref (al 70 0)]) rfl ?_
  refine j_i2l cx dL_setLimits_10 rfl (pc' := 11) rfl ?_
  refine j_last (jn := 0) cx hO rfl (by unfold vp_in; decide) rfl rfl dL_setLimits_11 (pc' := 12) rfl ?_
  refine j_goto (tgt := 19) cx dL_setLimits_12 (by decide) ?_
  refine j_iconst (v := 0) cx dL_setLimits_19 (by decide) (pc' := 20) rfl ?_
  exact j_iret (ty := .int) cx hlk hr rfl (Nat.le_of_ble_eq_true rfl) (Nat.le_of_ble_eq_true rfl) dL_setLimits_20 (lP_0 hk)
set_option maxHeartbeats 4000000 in
set_option maxRecDepth 100000 in
theorem c_L_drain {l : Launch} (hl0 : l.stackTraces = false) {Z : yL} {al : yAl} {sh : ySh} {S : yS} {fo : Nat → Int64} {nm ns : Nat} {mu : Nat → Nat} {x : Int32} (hY : YC Z al sh nm ns mu) (hs9 : S 9 0 2 = nI nm) (hO : sh 70 0 = some (yLo Z fo)) : Ct l yL_drain wsL_drain ({ frames := 11, cells := 2, slots := 12, locals := 197 }) 2 12 Z [.ref (al 0 0), .int x, .ref (al 70 0)] al sh S (lP Z al sh (kDrain nm x (S 20 x.toNatClampNeg 4)) fo (S 20 x.toNatClampNeg 5) (fRep (sup S 20 x.toNatClampNeg 4 103) x.toNatClampNeg) S) := by
  refine Ct.ofH (lv := [(0, .ref (al 0 0)), (1, .int x), (2, .ref (al 70 0))]) (by decide) rfl (Nat.le_of_ble_eq_true rfl) rfl ?_
  intro p_ e_ s_ m_ below_ meth_ c_ cx hlk hr htb
  refine j_aload_n (j := 2) cx dL_drain_0 rfl rfl (pc' := 1) rfl ?_
  refine j_iconst (v := 0) cx dL_drain_1 (by decide) (pc' := 2) rfl ?_
  refine j_aload_n (j := 0) cx dL_drain_2 rfl rfl (pc' := 3) rfl ?_
  refine j_iload_n (j := 1) cx dL_drain_3 rfl rfl (pc' := 4) rfl ?_
  refine j_cVXP (cells1 := 2) (slots1 := 12) (As := [.int x]) (rest := [.int 0, .ref (al 70 0)]) cx (c_X2_drain hl0 hY hs9) gL_drain_X2_drain rfl rfl rfl 1 rfl (by decide +kernel) ⟨(Nat.le_of_ble_eq_true rfl), (Nat.le_of_ble_eq_true rfl)⟩ hY.1 rfl rfl rfl rfl (Nat.le_of_ble_eq_true rfl) dL_drain_4 ⟨(Nat.le_of_ble_eq_true rfl), (Nat.le_of_ble_eq_true rfl)⟩ (pc' := 7) rfl rfl rfl (fun E hE => ?_) (fun v9 al9 sh9 S9 h9 => ?_)
  · obtain ⟨q9, hq, hE2, hk⟩ := hE
    simp only [List.mem_cons, List.not_mem_nil, or_false] at hq
    rcases hq with rfl | rfl
    · subst hE2
      refine jx_catch cx htb [] ⟨0, 9, 12, 24⟩ [⟨0, 9, 15, 15⟩] rfl (by decide) (fun z hz => by cases hz) rfl (by decide) (by decide +kernel) (fun q => ?_)
      refine j_astore_n (lv' := (3, .ref q) :: [(0, .ref (al 0 0)), (1, .int x), (2, .ref (al 70 0))]) cx dL_drain_12 rfl (by decide) rfl (pc' := 13) rfl ?_
      refine j_iconst (v := 1) cx dL_drain_13 (by decide) (pc' := 14) rfl ?_
      exact j_iret (ty := .int) cx hlk hr rfl (Nat.le_of_ble_eq_true rfl) (Nat.le_of_ble_eq_true rfl) dL_drain_14 (lP_n hk (by decide))
    · subst hE2
      refine jx_catch cx htb [⟨0, 9, 12, 24⟩] ⟨0, 9, 15, 15⟩ [] rfl (by decide) (by intro z hz; simp only [List.mem_cons, List.not_mem_nil, or_false] at hz; rcases hz with rfl; exact ⟨by decide, "java/lang/IndexOutOfBoundsException", by decide +kernel, by decide, by decide⟩) rfl (by decide) (by decide +kernel) (fun q => ?_)
      refine j_astore_n (lv' := (3, .ref q) :: [(0, .ref (al 0 0)), (1, .int x), (2, .ref (al 70 0))]) cx dL_drain_15 rfl (by decide) rfl (pc' := 16) rfl ?_
      refine j_iconst (v := 2) cx dL_drain_16 (by decide) (pc' := 17) rfl ?_
      exact j_iret (ty := .int) cx hlk hr rfl (Nat.le_of_ble_eq_true rfl) (Nat.le_of_ble_eq_true rfl) dL_drain_17 (lP_n hk (by decide))
  obtain ⟨hk, e1, e2, e3, e4⟩ := h9
  subst v9 al9 sh9 S9
  refine J.stk (st2 := [.int (S 20 x.toNatClampNeg 5), .int 0, .ref (al 70 0)]) rfl ?_
  refine j_i2l cx dL_drain_7 rfl (pc' := 8) rfl ?_
  refine j_last (jn := 0) cx hO rfl (by unfold vp_in; decide) rfl rfl dL_drain_8 (pc' := 9) rfl ?_
  refine j_goto (tgt := 18) cx dL_drain_9 (by decide) ?_
  refine j_iconst (v := 0) cx dL_drain_18 (by decide) (pc' := 19) rfl ?_
  exact j_iret (ty := .int) cx hlk hr rfl (Nat.le_of_ble_eq_true rfl) (Nat.le_of_ble_eq_true rfl) dL_drain_19 (lP_0 hk)
set_option maxHeartbeats 4000000 in
set_option maxRecDepth 100000 in
theorem c_L_putUp {l : Launch} (hl0 : l.stackTraces = false) {Z : yL} {al : yAl} {sh : ySh} {S : yS} {fo : Nat → Int64} {nm ns : Nat} {mu : Nat → Nat} {x : Int32} (hY : YC Z al sh nm ns mu) (hs9 : S 9 0 2 = nI nm) (hO : sh 70 0 = some (yLo Z fo)) : Ct l yL_putUp wsL_putUp ({ frames := 11, cells := 2, slots := 12, locals := 197 }) 2 12 Z [.ref (al 0 0), .int x, .ref (al 70 0)] al sh S (lP Z al sh (kPut nm x (S 20 x.toNatClampNeg 4)) fo (S 20 x.toNatClampNeg 3 - S 20 x.toNatClampNeg 5) (sup S 20 x.toNatClampNeg 4 117) S) := by
  refine Ct.ofH (lv := [(0, .ref (al 0 0)), (1, .int x), (2, .ref (al 70 0))]) (by decide) rfl (Nat.le_of_ble_eq_true rfl) rfl ?_
  intro p_ e_ s_ m_ below_ meth_ c_ cx hlk hr htb
  refine j_aload_n (j := 2) cx dL_putUp_0 rfl rfl (pc' := 1) rfl ?_
  refine j_iconst (v := 0) cx dL_putUp_1 (by decide) (pc' := 2) rfl ?_
  refine j_aload_n (j := 0) cx dL_putUp_2 rfl rfl (pc' := 3) rfl ?_
  refine j_iload_n (j := 1) cx dL_putUp_3 rfl rfl (pc' := 4) rfl ?_
  refine j_cVXP (cells1 := 2) (slots1 := 12) (As := [.int x]) (rest := [.int 0, .ref (al 70 0)]) cx (c_X2_putUp hl0 hY hs9) gL_putUp_X2_putUp rfl rfl rfl 1 rfl (by decide +kernel) ⟨(Nat.le_of_ble_eq_true rfl), (Nat.le_of_ble_eq_true rfl)⟩ hY.1 rfl rfl rfl rfl (Nat.le_of_ble_eq_true rfl) dL_putUp_4 ⟨(Nat.le_of_ble_eq_true rfl), (Nat.le_of_ble_eq_true rfl)⟩ (pc' := 7) rfl rfl rfl (fun E hE => ?_) (fun v9 al9 sh9 S9 h9 => ?_)
  · obtain ⟨q9, hq, hE2, hk⟩ := hE
    simp only [List.mem_cons, List.not_mem_nil, or_false] at hq
    rcases hq with rfl | rfl
    · subst hE2
      refine jx_catch cx htb [] ⟨0, 9, 12, 24⟩ [⟨0, 9, 15, 15⟩] rfl (by decide) (fun z hz => by cases hz) rfl (by decide) (by decide +kernel) (fun q => ?_)
      refine j_astore_n (lv' := (3, .ref q) :: [(0, .ref (al 0 0)), (1, .int x), (2, .ref (al 70 0))]) cx dL_putUp_12 rfl (by decide) rfl (pc' := 13) rfl ?_
      refine j_iconst (v := 1) cx dL_putUp_13 (by decide) (pc' := 14) rfl ?_
      exact j_iret (ty := .int) cx hlk hr rfl (Nat.le_of_ble_eq_true rfl) (Nat.le_of_ble_eq_true rfl) dL_putUp_14 (lP_n hk (by decide))
    · subst hE2
      refine jx_catch cx htb [⟨0, 9, 12, 24⟩] ⟨0, 9, 15, 15⟩ [] rfl (by decide) (by intro z hz; simp only [List.mem_cons, List.not_mem_nil, or_false] at hz; rcases hz with rfl; exact ⟨by decide, "java/lang/IndexOutOfBoundsException", by decide +kernel, by decide, by decide⟩) rfl (by decide) (by decide +kernel) (fun q => ?_)
      refine j_astore_n (lv' := (3, .ref q) :: [(0, .ref (al 0 0)), (1, .int x), (2, .ref (al 70 0))]) cx dL_putUp_15 rfl (by decide) rfl (pc' := 16) rfl ?_
      refine j_iconst (v := 2) cx dL_putUp_16 (by decide) (pc' := 17) rfl ?_
      exact j_iret (ty := .int) cx hlk hr rfl (Nat.le_of_ble_eq_true rfl) (Nat.le_of_ble_eq_true rfl) dL_putUp_17 (lP_n hk (by decide))
  obtain ⟨hk, e1, e2, e3, e4⟩ := h9
  subst v9 al9 sh9 S9
  refine J.stk (st2 := [.int (S 20 x.toNatClampNeg 3 - S 20 x.toNatClampNeg 5), .int 0, .ref (al 70 0)]) rfl ?_
  refine j_i2l cx dL_putUp_7 rfl (pc' := 8) rfl ?_
  refine j_last (jn := 0) cx hO rfl (by unfold vp_in; decide) rfl rfl dL_putUp_8 (pc' := 9) rfl ?_
  refine j_goto (tgt := 18) cx dL_putUp_9 (by decide) ?_
  refine j_iconst (v := 0) cx dL_putUp_18 (by decide) (pc' := 19) rfl ?_
  exact j_iret (ty := .int) cx hlk hr rfl (Nat.le_of_ble_eq_true rfl) (Nat.le_of_ble_eq_true rfl) dL_putUp_19 (lP_0 hk)
set_option maxHeartbeats 4000000 in
set_option maxRecDepth 100000 in
theorem c_L_machine {l : Launch} (hl0 : l.stackTraces = false) {Z : yL} {al : yAl} {sh : ySh} {S : yS} {fo : Nat → Int64} {nm ns : Nat} {mu : Nat → Nat} {x : Int32} (hY : YC Z al sh nm ns mu) (hs9 : S 9 0 2 = nI nm) (hch : ∀ i, i < nm → narrow .char (.int (S 20 i 4)) = .int (S 20 i 4)) (hO : sh 70 0 = some (yLo Z fo)) : Ct l yL_machine wsL_machine ({ frames := 11, cells := 1, slots := 6, locals := 196 }) 1 6 Z [.ref (al 0 0), .int x, .ref (al 70 0)] al sh S (lP Z al sh (kIdx nm x) fo (S 20 x.toNatClampNeg 4) S S) := by
  refine Ct.ofH (lv := [(0, .ref (al 0 0)), (1, .int x), (2, .ref (al 70 0))]) (by decide) rfl (Nat.le_of_ble_eq_true rfl) rfl ?_
  intro p_ e_ s_ m_ below_ meth_ c_ cx hlk hr htb
  refine j_aload_n (j := 2) cx dL_machine_0 rfl rfl (pc' := 1) rfl ?_
  refine j_iconst (v := 0) cx dL_machine_1 (by decide) (pc' := 2) rfl ?_
  refine j_aload_n (j := 0) cx dL_machine_2 rfl rfl (pc' := 3) rfl ?_
  refine j_iload_n (j := 1) cx dL_machine_3 rfl rfl (pc' := 4) rfl ?_
  refine j_cVXP (cells1 := 1) (slots1 := 6) (As := [.int x]) (rest := [.int 0, .ref (al 70 0)]) cx (c_X2_machine hl0 hY hs9 hch) gL_machine_X2_machine rfl rfl rfl 1 rfl (by decide +kernel) ⟨(Nat.le_of_ble_eq_true rfl), (Nat.le_of_ble_eq_true rfl)⟩ hY.1 rfl rfl rfl rfl (Nat.le_of_ble_eq_true rfl) dL_machine_4 ⟨(Nat.le_of_ble_eq_true rfl), (Nat.le_of_ble_eq_true rfl)⟩ (pc' := 7) rfl rfl rfl (fun E hE => ?_) (fun v9 al9 sh9 S9 h9 => ?_)
  · have hE : yx [(1, xIB)] (kIdx nm x) E := ⟨(1, xIB), by simp, hE.1, by simp [kIdx, nvin hE.2]⟩
    obtain ⟨q9, hq, hE2, hk⟩ := hE
    simp only [List.mem_cons, List.not_mem_nil, or_false] at hq
    rcases hq with rfl
    · subst hE2
      refine jx_catch cx htb [] ⟨0, 9, 12, 24⟩ [] rfl (by decide) (fun z hz => by cases hz) rfl (by decide) (by decide +kernel) (fun q => ?_)
      refine j_astore_n (lv' := (3, .ref q) :: [(0, .ref (al 0 0)), (1, .int x), (2, .ref (al 70 0))]) cx dL_machine_12 rfl (by decide) rfl (pc' := 13) rfl ?_
      refine j_iconst (v := 1) cx dL_machine_13 (by decide) (pc' := 14) rfl ?_
      exact j_iret (ty := .int) cx hlk hr rfl (Nat.le_of_ble_eq_true rfl) (Nat.le_of_ble_eq_true rfl) dL_machine_14 (lP_n hk (by decide))
  obtain ⟨hk, e1, e2, e3, e4⟩ := h9
  subst v9 al9 sh9 S9
  have hk : (kIdx nm x) = 0 := by simp [kIdx, vin hk]
  refine J.stk (st2 := [.int (S 20 x.toNatClampNeg 4), .int 0, .ref (al 70 0)]) rfl ?_
  refine j_i2l cx dL_machine_7 rfl (pc' := 8) rfl ?_
  refine j_last (jn := 0) cx hO rfl (by unfold vp_in; decide) rfl rfl dL_machine_8 (pc' := 9) rfl ?_
  refine j_goto (tgt := 15) cx dL_machine_9 (by decide) ?_
  refine j_iconst (v := 0) cx dL_machine_15 (by decide) (pc' := 16) rfl ?_
  exact j_iret (ty := .int) cx hlk hr rfl (Nat.le_of_ble_eq_true rfl) (Nat.le_of_ble_eq_true rfl) dL_machine_16 (lP_0 hk)
set_option maxHeartbeats 4000000 in
set_option maxRecDepth 100000 in
theorem c_L_next {l : Launch} (hl0 : l.stackTraces = false) {Z : yL} {al : yAl} {sh : ySh} {S : yS} {fo : Nat → Int64} {nm ns : Nat} {mu : Nat → Nat} {x : Int32} (hY : YC Z al sh nm ns mu) (hs9 : S 9 0 2 = nI nm) (hO : sh 70 0 = some (yLo Z fo)) : Ct l yL_next wsL_next ({ frames := 11, cells := 2, slots := 12, locals := 199 }) 2 12 Z [.ref (al 0 0), .int x, .ref (al 70 0)] al sh S (lP Z al sh (kNext x (lBest S x 0 none nm)) fo (match lBest S x 0 none nm with | some b => S 20 b 0 | none => 0) S S) := by
  refine Ct.ofH (lv := [(0, .ref (al 0 0)), (1, .int x), (2, .ref (al 70 0))]) (by decide) rfl (Nat.le_of_ble_eq_true rfl) rfl ?_
  intro p_ e_ s_ m_ below_ meth_ c_ cx hlk hr htb
  refine j_aload_n (j := 2) cx dL_next_0 rfl rfl (pc' := 1) rfl ?_
  refine j_iconst (v := 0) cx dL_next_1 (by decide) (pc' := 2) rfl ?_
  refine j_aload_n (j := 0) cx dL_next_2 rfl rfl (pc' := 3) rfl ?_
  refine j_iload_n (j := 1) cx dL_next_3 rfl rfl (pc' := 4) rfl ?_
  refine j_cVXP (cells1 := 2) (slots1 := 12) (As := [.int x]) (rest := [.int 0, .ref (al 70 0)]) cx (c_X2_next hl0 hY hs9) gL_next_X2_next rfl rfl rfl 1 rfl (by decide +kernel) ⟨(Nat.le_of_ble_eq_true rfl), (Nat.le_of_ble_eq_true rfl)⟩ hY.1 rfl rfl rfl rfl (Nat.le_of_ble_eq_true rfl) dL_next_4 ⟨(Nat.le_of_ble_eq_true rfl), (Nat.le_of_ble_eq_true rfl)⟩ (pc' := 7) rfl rfl rfl (fun E hE => ?_) (fun v9 al9 sh9 S9 h9 => ?_)
  · obtain ⟨q9, hq, hE2, hk⟩ := hE
    simp only [List.mem_cons, List.not_mem_nil, or_false] at hq
    rcases hq with rfl | rfl
    · subst hE2
      refine jx_catch cx htb [] ⟨0, 9, 12, 13⟩ [⟨0, 9, 15, 36⟩] rfl (by decide) (fun z hz => by cases hz) rfl (by decide) (by decide +kernel) (fun q => ?_)
      refine j_astore_n (lv' := (3, .ref q) :: [(0, .ref (al 0 0)), (1, .int x), (2, .ref (al 70 0))]) cx dL_next_12 rfl (by decide) rfl (pc' := 13) rfl ?_
      refine j_iconst (v := 1) cx dL_next_13 (by decide) (pc' := 14) rfl ?_
      exact j_iret (ty := .int) cx hlk hr rfl (Nat.le_of_ble_eq_true rfl) (Nat.le_of_ble_eq_true rfl) dL_next_14 (lP_n hk (by decide))
    · subst hE2
      refine jx_catch cx htb [⟨0, 9, 12, 13⟩] ⟨0, 9, 15, 36⟩ [] rfl (by decide) (by intro z hz; simp only [List.mem_cons, List.not_mem_nil, or_false] at hz; rcases hz with rfl; exact ⟨by decide, "java/lang/IllegalArgumentException", by decide +kernel, by decide, by decide⟩) rfl (by decide) (by decide +kernel) (fun q => ?_)
      refine j_astore_n (lv' := (3, .ref q) :: [(0, .ref (al 0 0)), (1, .int x), (2, .ref (al 70 0))]) cx dL_next_15 rfl (by decide) rfl (pc' := 16) rfl ?_
      refine j_iconst (v := 2) cx dL_next_16 (by decide) (pc' := 17) rfl ?_
      exact j_iret (ty := .int) cx hlk hr rfl (Nat.le_of_ble_eq_true rfl) (Nat.le_of_ble_eq_true rfl) dL_next_17 (lP_n hk (by decide))
  obtain ⟨b, hbe, hb, hk, e1, e2, e3, e4⟩ := h9
  subst v9 al9 sh9 S9
  have hr9 : S 20 b 0 = (match lBest S x 0 none nm with | some b => S 20 b 0 | none => 0) := by rw [hbe]
  rw [hr9]
  refine J.stk (st2 := [.int (match lBest S x 0 none nm with | some b => S 20 b 0 | none => 0), .int 0, .ref (al 70 0)]) rfl ?_
  refine j_i2l cx dL_next_7 rfl (pc' := 8) rfl ?_
  refine j_last (jn := 0) cx hO rfl (by unfold vp_in; decide) rfl rfl dL_next_8 (pc' := 9) rfl ?_
  refine j_goto (tgt := 18) cx dL_next_9 (by decide) ?_
  refine j_iconst (v := 0) cx dL_next_18 (by decide) (pc' := 19) rfl ?_
  exact j_iret (ty := .int) cx hlk hr rfl (Nat.le_of_ble_eq_true rfl) (Nat.le_of_ble_eq_true rfl) dL_next_19 (lP_0 hk)
set_option maxHeartbeats 4000000 in
set_option maxRecDepth 100000 in
theorem c_L_free {l : Launch} (hl0 : l.stackTraces = false) {Z : yL} {al : yAl} {sh : ySh} {S : yS} {fo : Nat → Int64} {nm ns : Nat} {mu : Nat → Nat} {x : Int32} (hY : YC Z al sh nm ns mu) (hs9 : S 9 0 2 = nI nm) (hO : sh 70 0 = some (yLo Z fo)) : Ct l yL_free wsL_free ({ frames := 10, cells := 1, slots := 6, locals := 178 }) 1 6 Z [.ref (al 0 0), .int x, .ref (al 70 0)] al sh S (lP Z al sh (kPool x) fo (lFree S x 0 0 nm) S S) := by
  refine Ct.ofH (lv := [(0, .ref (al 0 0)), (1, .int x), (2, .ref (al 70 0))]) (by decide) rfl (Nat.le_of_ble_eq_true rfl) rfl ?_
  intro p_ e_ s_ m_ below_ meth_ c_ cx hlk hr htb
  refine j_aload_n (j := 2) cx dL_free_0 rfl rfl (pc' := 1) rfl ?_
  refine j_iconst (v := 0) cx dL_free_1 (by decide) (pc' := 2) rfl ?_
  refine j_aload_n (j := 0) cx dL_free_2 rfl rfl (pc' := 3) rfl ?_
  refine j_iload_n (j := 1) cx dL_free_3 rfl rfl (pc' := 4) rfl ?_
  refine j_cVXP (cells1 := 1) (slots1 := 6) (As := [.int x]) (rest := [.int 0, .ref (al 70 0)]) cx (c_X2_free hl0 hY hs9) gL_free_X2_free rfl rfl rfl 1 rfl (by decide +kernel) ⟨(Nat.le_of_ble_eq_true rfl), (Nat.le_of_ble_eq_true rfl)⟩ hY.1 rfl rfl rfl rfl (Nat.le_of_ble_eq_true rfl) dL_free_4 ⟨(Nat.le_of_ble_eq_true rfl), (Nat.le_of_ble_eq_true rfl)⟩ (pc' := 7) rfl rfl rfl (fun E hE => ?_) (fun v9 al9 sh9 S9 h9 => ?_)
  · obtain ⟨q9, hq, hE2, hk⟩ := hE
    simp only [List.mem_cons, List.not_mem_nil, or_false] at hq
    rcases hq with rfl
    · subst hE2
      refine jx_catch cx htb [] ⟨0, 9, 12, 13⟩ [] rfl (by decide) (fun z hz => by cases hz) rfl (by decide) (by decide +kernel) (fun q => ?_)
      refine j_astore_n (lv' := (3, .ref q) :: [(0, .ref (al 0 0)), (1, .int x), (2, .ref (al 70 0))]) cx dL_free_12 rfl (by decide) rfl (pc' := 13) rfl ?_
      refine j_iconst (v := 1) cx dL_free_13 (by decide) (pc' := 14) rfl ?_
      exact j_iret (ty := .int) cx hlk hr rfl (Nat.le_of_ble_eq_true rfl) (Nat.le_of_ble_eq_true rfl) dL_free_14 (lP_n hk (by decide))
  obtain ⟨hk, e1, e2, e3, e4⟩ := h9
  subst v9 al9 sh9 S9
  refine J.stk (st2 := [.int (lFree S x 0 0 nm), .int 0, .ref (al 70 0)]) rfl ?_
  refine j_i2l cx dL_free_7 rfl (pc' := 8) rfl ?_
  refine j_last (jn := 0) cx hO rfl (by unfold vp_in; decide) rfl rfl dL_free_8 (pc' := 9) rfl ?_
  refine j_goto (tgt := 15) cx dL_free_9 (by decide) ?_
  refine j_iconst (v := 0) cx dL_free_15 (by decide) (pc' := 16) rfl ?_
  exact j_iret (ty := .int) cx hlk hr rfl (Nat.le_of_ble_eq_true rfl) (Nat.le_of_ble_eq_true rfl) dL_free_16 (lP_0 hk)
set_option maxHeartbeats 4000000 in
set_option maxRecDepth 100000 in
theorem c_L_assign {l : Launch} (hl0 : l.stackTraces = false) {Z : yL} {al : yAl} {sh : ySh} {S : yS} {fo : Nat → Int64} {nm ns : Nat} {mu : Nat → Nat} {u d : Int32} (hY : YC Z al sh nm ns mu) (hO : sh 70 0 = some (yLo Z fo)) : Ct l yL_assign wsL_assign ({ frames := 8, cells := 2, slots := 12, locals := 133 }) 2 12 Z [.ref (al 0 0), .int u, .int d, .ref (al 70 0)] al sh S (lP Z al sh (kAss u d) fo (S 4 0 u.toNatClampNeg) (sup S 4 0 u.toNatClampNeg d) S) := by
  refine Ct.ofH (lv := [(0, .ref (al 0 0)), (1, .int u), (2, .int d), (3, .ref (al 70 0))]) (by decide) rfl (Nat.le_of_ble_eq_true rfl) rfl ?_
  intro p_ e_ s_ m_ below_ meth_ c_ cx hlk hr htb
  refine j_aload_n (j := 3) cx dL_assign_0 rfl rfl (pc' := 1) rfl ?_
  refine j_iconst (v := 0) cx dL_assign_1 (by decide) (pc' := 2) rfl ?_
  refine j_aload_n (j := 0) cx dL_assign_2 rfl rfl (pc' := 3) rfl ?_
  refine j_iload_n (j := 1) cx dL_assign_3 rfl rfl (pc' := 4) rfl ?_
  refine j_iload_n (j := 2) cx dL_assign_4 rfl rfl (pc' := 5) rfl ?_
  refine j_cVXP (cells1 := 2) (slots1 := 12) (As := [.int u, .int d]) (rest := [.int 0, .ref (al 70 0)]) cx (c_X2_assign hl0 hY) gL_assign_X2_assign rfl rfl rfl 2 rfl (by decide +kernel) ⟨(Nat.le_of_ble_eq_true rfl), (Nat.le_of_ble_eq_true rfl)⟩ hY.1 rfl rfl rfl rfl (Nat.le_of_ble_eq_true rfl) dL_assign_5 ⟨(Nat.le_of_ble_eq_true rfl), (Nat.le_of_ble_eq_true rfl)⟩ (pc' := 8) rfl rfl rfl (fun E hE => ?_) (fun v9 al9 sh9 S9 h9 => ?_)
  · obtain ⟨q9, hq, hE2, hk⟩ := hE
    simp only [List.mem_cons, List.not_mem_nil, or_false] at hq
    rcases hq with rfl
    · subst hE2
      refine jx_catch cx htb [] ⟨0, 10, 13, 13⟩ [] rfl (by decide) (fun z hz => by cases hz) rfl (by decide) (by decide +kernel) (fun q => ?_)
      refine j_astore (lv' := (4, .ref q) :: [(0, .ref (al 0 0)), (1, .int u), (2, .int d), (3, .ref (al 70 0))]) cx dL_assign_13 (by decide) rfl (pc' := 15) rfl ?_
      refine j_iconst (v := 1) cx dL_assign_15 (by decide) (pc' := 16) rfl ?_
      exact j_iret (ty := .int) cx hlk hr rfl (Nat.le_of_ble_eq_true rfl) (Nat.le_of_ble_eq_true rfl) dL_assign_16 (lP_n hk (by decide))
  obtain ⟨hk, e1, e2, e3, e4⟩ := h9
  subst v9 al9 sh9 S9
  refine J.stk (st2 := [.int (S 4 0 u.toNatClampNeg), .int 0, .ref (al 70 0)]) rfl ?_
  refine j_i2l cx dL_assign_8 rfl (pc' := 9) rfl ?_
  refine j_last (jn := 0) cx hO rfl (by unfold vp_in; decide) rfl rfl dL_assign_9 (pc' := 10) rfl ?_
  refine j_goto (tgt := 17) cx dL_assign_10 (by decide) ?_
  refine j_iconst (v := 0) cx dL_assign_17 (by decide) (pc' := 18) rfl ?_
  exact j_iret (ty := .int) cx hlk hr rfl (Nat.le_of_ble_eq_true rfl) (Nat.le_of_ble_eq_true rfl) dL_assign_18 (lP_0 hk)
set_option maxHeartbeats 4000000 in
set_option maxRecDepth 100000 in
theorem c_L_buy {l : Launch} (hl0 : l.stackTraces = false) {Z : yL} {al : yAl} {sh : ySh} {S : yS} {fo : Nat → Int64} {nm ns : Nat} {mu : Nat → Nat} {d m : Int32} (hY : YC Z al sh nm ns mu) (hO : sh 70 0 = some (yLo Z fo)) : Ct l yL_buy wsL_buy ({ frames := 8, cells := 3, slots := 18, locals := 132 }) 3 18 Z [.ref (al 0 0), .int d, .int m, .ref (al 70 0)] al sh S (lP Z al sh (kBuy d m (S 5 0 d.toNatClampNeg)) fo (S 5 0 d.toNatClampNeg + m) (sup (sup S 6 0 d.toNatClampNeg (S 6 0 d.toNatClampNeg + m)) 5 0 d.toNatClampNeg (S 5 0 d.toNatClampNeg + m)) S) := by
  refine Ct.ofH (lv := [(0, .ref (al 0 0)), (1, .int d), (2, .int m), (3, .ref (al 70 0))]) (by decide) rfl (Nat.le_of_ble_eq_true rfl) rfl ?_
  intro p_ e_ s_ m_ below_ meth_ c_ cx hlk hr htb
  refine j_aload_n (j := 3) cx dL_buy_0 rfl rfl (pc' := 1) rfl ?_
  refine j_iconst (v := 0) cx dL_buy_1 (by decide) (pc' := 2) rfl ?_
  refine j_aload_n (j := 0) cx dL_buy_2 rfl rfl (pc' := 3) rfl ?_
  refine j_iload_n (j := 1) cx dL_buy_3 rfl rfl (pc' := 4) rfl ?_
  refine j_iload_n (j := 2) cx dL_buy_4 rfl rfl (pc' := 5) rfl ?_
  refine j_cVXP (cells1 := 3) (slots1 := 18) (As := [.int d, .int m]) (rest := [.int 0, .ref (al 70 0)]) cx (c_X2_buy hl0 hY) gL_buy_X2_buy rfl rfl rfl 2 rfl (by decide +kernel) ⟨(Nat.le_of_ble_eq_true rfl), (Nat.le_of_ble_eq_true rfl)⟩ hY.1 rfl rfl rfl rfl (Nat.le_of_ble_eq_true rfl) dL_buy_5 ⟨(Nat.le_of_ble_eq_true rfl), (Nat.le_of_ble_eq_true rfl)⟩ (pc' := 8) rfl rfl rfl (fun E hE => ?_) (fun v9 al9 sh9 S9 h9 => ?_)
  · obtain ⟨q9, hq, hE2, hk⟩ := hE
    simp only [List.mem_cons, List.not_mem_nil, or_false] at hq
    rcases hq with rfl | rfl
    · subst hE2
      refine jx_catch cx htb [] ⟨0, 10, 13, 13⟩ [⟨0, 10, 17, 15⟩] rfl (by decide) (fun z hz => by cases hz) rfl (by decide) (by decide +kernel) (fun q => ?_)
      refine j_astore (lv' := (4, .ref q) :: [(0, .ref (al 0 0)), (1, .int d), (2, .int m), (3, .ref (al 70 0))]) cx dL_buy_13 (by decide) rfl (pc' := 15) rfl ?_
      refine j_iconst (v := 1) cx dL_buy_15 (by decide) (pc' := 16) rfl ?_
      exact j_iret (ty := .int) cx hlk hr rfl (Nat.le_of_ble_eq_true rfl) (Nat.le_of_ble_eq_true rfl) dL_buy_16 (lP_n hk (by decide))
    · subst hE2
      refine jx_catch cx htb [⟨0, 10, 13, 13⟩] ⟨0, 10, 17, 15⟩ [] rfl (by decide) (by intro z hz; simp only [List.mem_cons, List.not_mem_nil, or_false] at hz; rcases hz with rfl; exact ⟨by decide, "java/lang/IllegalArgumentException", by decide +kernel, by decide, by decide⟩) rfl (by decide) (by decide +kernel) (fun q => ?_)
      refine j_astore (lv' := (4, .ref q) :: [(0, .ref (al 0 0)), (1, .int d), (2, .int m), (3, .ref (al 70 0))]) cx dL_buy_17 (by decide) rfl (pc' := 19) rfl ?_
      refine j_iconst (v := 2) cx dL_buy_19 (by decide) (pc' := 20) rfl ?_
      exact j_iret (ty := .int) cx hlk hr rfl (Nat.le_of_ble_eq_true rfl) (Nat.le_of_ble_eq_true rfl) dL_buy_20 (lP_n hk (by decide))
  obtain ⟨hk, e1, e2, e3, e4⟩ := h9
  subst v9 al9 sh9 S9
  refine J.stk (st2 := [.int (S 5 0 d.toNatClampNeg + m), .int 0, .ref (al 70 0)]) rfl ?_
  refine j_i2l cx dL_buy_8 rfl (pc' := 9) rfl ?_
  refine j_last (jn := 0) cx hO rfl (by unfold vp_in; decide) rfl rfl dL_buy_9 (pc' := 10) rfl ?_
  refine j_goto (tgt := 21) cx dL_buy_10 (by decide) ?_
  refine j_iconst (v := 0) cx dL_buy_21 (by decide) (pc' := 22) rfl ?_
  exact j_iret (ty := .int) cx hlk hr rfl (Nat.le_of_ble_eq_true rfl) (Nat.le_of_ble_eq_true rfl) dL_buy_22 (lP_0 hk)
set_option maxHeartbeats 4000000 in
set_option maxRecDepth 100000 in
theorem c_L_lend {l : Launch} (hl0 : l.stackTraces = false) {Z : yL} {al : yAl} {sh : ySh} {S : yS} {fo : Nat → Int64} {nm ns : Nat} {mu : Nat → Nat} {f t m : Int32} (hY : YC Z al sh nm ns mu) (hO : sh 70 0 = some (yLo Z fo)) : Ct l yL_lend wsL_lend ({ frames := 9, cells := 5, slots := 30, locals := 154 }) 5 30 Z [.ref (al 0 0), .int f, .int t, .int m, .ref (al 70 0)] al sh S (lP Z al sh (kLend f t m (S 5 0 f.toNatClampNeg)) fo ((fMove S f.toNatClampNeg t.toNatClampNeg m) 8 t.toNatClampNeg f.toNatClampNeg + m) (sup (fMove S f.toNatClampNeg t.toNatClampNeg m) 8 t.toNatClampNeg f.toNatClampNeg ((fMove S f.toNatClampNeg t.toNatClampNeg m) 8 t.toNatClampNeg f.toNatClampNeg + m)) S) := by
  refine Ct.ofH (lv := [(0, .ref (al 0 0)), (1, .int f), (2, .int t), (3, .int m), (4, .ref (al 70 0))]) (by decide) rfl (Nat.le_of_ble_eq_true rfl) rfl ?_
  intro p_ e_ s_ m_ below_ meth_ c_ cx hlk hr htb
  refine j_aload (j := 4) cx dL_lend_0 rfl (pc' := 2) rfl ?_
  refine j_iconst (v := 0) cx dL_lend_2 (by decide) (pc' := 3) rfl ?_
  refine j_aload_n (j := 0) cx dL_lend_3 rfl rfl (pc' := 4) rfl ?_
  refine j_iload_n (j := 1) cx dL_lend_4 rfl rfl (pc' := 5) rfl ?_
  refine j_iload_n (j := 2) cx dL_lend_5 rfl rfl (pc' := 6) rfl ?_
  refine j_iload_n (j := 3) cx dL_lend_6 rfl rfl (pc' := 7) rfl ?_
  refine j_cVXP (cells1 := 5) (slots1 := 30) (As := [.int f, .int t, .int m]) (rest := [.int 0, .ref (al 70 0)]) cx (c_X2_lend hl0 hY) gL_lend_X2_lend rfl rfl rfl 3 rfl (by decide +kernel) ⟨(Nat.le_of_ble_eq_true rfl), (Nat.le_of_ble_eq_true rfl)⟩ hY.1 rfl rfl rfl rfl (Nat.le_of_ble_eq_true rfl) dL_lend_7 ⟨(Nat.le_of_ble_eq_true rfl), (Nat.le_of_ble_eq_true rfl)⟩ (pc' := 10) rfl rfl rfl (fun E hE => ?_) (fun v9 al9 sh9 S9 h9 => ?_)
  · obtain ⟨q9, hq, hE2, hk⟩ := hE
    simp only [List.mem_cons, List.not_mem_nil, or_false] at hq
    rcases hq with rfl | rfl
    · subst hE2
      refine jx_catch cx htb [] ⟨0, 12, 15, 13⟩ [⟨0, 12, 19, 51⟩] rfl (by decide) (fun z hz => by cases hz) rfl (by decide) (by decide +kernel) (fun q => ?_)
      refine j_astore (lv' := (5, .ref q) :: [(0, .ref (al 0 0)), (1, .int f), (2, .int t), (3, .int m), (4, .ref (al 70 0))]) cx dL_lend_15 (by decide) rfl (pc' := 17) rfl ?_
      refine j_iconst (v := 1) cx dL_lend_17 (by decide) (pc' := 18) rfl ?_
      exact j_iret (ty := .int) cx hlk hr rfl (Nat.le_of_ble_eq_true rfl) (Nat.le_of_ble_eq_true rfl) dL_lend_18 (lP_n hk (by decide))
    · subst hE2
      refine jx_catch cx htb [⟨0, 12, 15, 13⟩] ⟨0, 12, 19, 51⟩ [] rfl (by decide) (by intro z hz; simp only [List.mem_cons, List.not_mem_nil, or_false] at hz; rcases hz with rfl; exact ⟨by decide, "java/lang/IllegalArgumentException", by decide +kernel, by decide, by decide⟩) rfl (by decide) (by decide +kernel) (fun q => ?_)
      refine j_astore (lv' := (5, .ref q) :: [(0, .ref (al 0 0)), (1, .int f), (2, .int t), (3, .int m), (4, .ref (al 70 0))]) cx dL_lend_19 (by decide) rfl (pc' := 21) rfl ?_
      refine j_iconst (v := 2) cx dL_lend_21 (by decide) (pc' := 22) rfl ?_
      exact j_iret (ty := .int) cx hlk hr rfl (Nat.le_of_ble_eq_true rfl) (Nat.le_of_ble_eq_true rfl) dL_lend_22 (lP_n hk (by decide))
  obtain ⟨hk, e1, e2, e3, e4⟩ := h9
  subst v9 al9 sh9 S9
  refine J.stk (st2 := [.int ((fMove S f.toNatClampNeg t.toNatClampNeg m) 8 t.toNatClampNeg f.toNatClampNeg + m), .int 0, .ref (al 70 0)]) rfl ?_
  refine j_i2l cx dL_lend_10 rfl (pc' := 11) rfl ?_
  refine j_last (jn := 0) cx hO rfl (by unfold vp_in; decide) rfl rfl dL_lend_11 (pc' := 12) rfl ?_
  refine j_goto (tgt := 23) cx dL_lend_12 (by decide) ?_
  refine j_iconst (v := 0) cx dL_lend_23 (by decide) (pc' := 24) rfl ?_
  exact j_iret (ty := .int) cx hlk hr rfl (Nat.le_of_ble_eq_true rfl) (Nat.le_of_ble_eq_true rfl) dL_lend_24 (lP_0 hk)
set_option maxHeartbeats 4000000 in
set_option maxRecDepth 100000 in
theorem c_L_giveBack {l : Launch} (hl0 : l.stackTraces = false) {Z : yL} {al : yAl} {sh : ySh} {S : yS} {fo : Nat → Int64} {nm ns : Nat} {mu : Nat → Nat} {f t m : Int32} (hY : YC Z al sh nm ns mu) (hO : sh 70 0 = some (yLo Z fo)) : Ct l yL_giveBack wsL_giveBack ({ frames := 9, cells := 5, slots := 30, locals := 154 }) 5 30 Z [.ref (al 0 0), .int f, .int t, .int m, .ref (al 70 0)] al sh S (lP Z al sh (kGive f t m (S 8 f.toNatClampNeg t.toNatClampNeg) (S 5 0 f.toNatClampNeg)) fo ((fMove S f.toNatClampNeg t.toNatClampNeg m) 8 f.toNatClampNeg t.toNatClampNeg - m) (sup (fMove S f.toNatClampNeg t.toNatClampNeg m) 8 f.toNatClampNeg t.toNatClampNeg ((fMove S f.toNatClampNeg t.toNatClampNeg m) 8 f.toNatClampNeg t.toNatClampNeg - m)) S) := by
  refine Ct.ofH (lv := [(0, .ref (al 0 0)), (1, .int f), (2, .int t), (3, .int m), (4, .ref (al 70 0))]) (by decide) rfl (Nat.le_of_ble_eq_true rfl) rfl ?_
  intro p_ e_ s_ m_ below_ meth_ c_ cx hlk hr htb
  refine j_aload (j := 4) cx dL_giveBack_0 rfl (pc' := 2) rfl ?_
  refine j_iconst (v := 0) cx dL_giveBack_2 (by decide) (pc' := 3) rfl ?_
  refine j_aload_n (j := 0) cx dL_giveBack_3 rfl rfl (pc' := 4) rfl ?_
  refine j_iload_n (j := 1) cx dL_giveBack_4 rfl rfl (pc' := 5) rfl ?_
  refine j_iload_n (j := 2) cx dL_giveBack_5 rfl rfl (pc' := 6) rfl ?_
  refine j_iload_n (j := 3) cx dL_giveBack_6 rfl rfl (pc' := 7) rfl ?_
  refine j_cVXP (cells1 := 5) (slots1 := 30) (As := [.int f, .int t, .int m]) (rest := [.int 0, .ref (al 70 0)]) cx (c_X2_giveBack hl0 hY) gL_giveBack_X2_giveBack rfl rfl rfl 3 rfl (by decide +kernel) ⟨(Nat.le_of_ble_eq_true rfl), (Nat.le_of_ble_eq_true rfl)⟩ hY.1 rfl rfl rfl rfl (Nat.le_of_ble_eq_true rfl) dL_giveBack_7 ⟨(Nat.le_of_ble_eq_true rfl), (Nat.le_of_ble_eq_true rfl)⟩ (pc' := 10) rfl rfl rfl (fun E hE => ?_) (fun v9 al9 sh9 S9 h9 => ?_)
  · obtain ⟨q9, hq, hE2, hk⟩ := hE
    simp only [List.mem_cons, List.not_mem_nil, or_false] at hq
    rcases hq with rfl | rfl | rfl
    · subst hE2
      refine jx_catch cx htb [] ⟨0, 12, 15, 13⟩ [⟨0, 12, 19, 15⟩, ⟨0, 12, 23, 51⟩] rfl (by decide) (fun z hz => by cases hz) rfl (by decide) (by decide +kernel) (fun q => ?_)
      refine j_astore (lv' := (5, .ref q) :: [(0, .ref (al 0 0)), (1, .int f), (2, .int t), (3, .int m), (4, .ref (al 70 0))]) cx dL_giveBack_15 (by decide) rfl (pc' := 17) rfl ?_
      refine j_iconst (v := 1) cx dL_giveBack_17 (by decide) (pc' := 18) rfl ?_
      exact j_iret (ty := .int) cx hlk hr rfl (Nat.le_of_ble_eq_true rfl) (Nat.le_of_ble_eq_true rfl) dL_giveBack_18 (lP_n hk (by decide))
    · subst hE2
      refine jx_catch cx htb [⟨0, 12, 15, 13⟩] ⟨0, 12, 19, 15⟩ [⟨0, 12, 23, 51⟩] rfl (by decide) (by intro z hz; simp only [List.mem_cons, List.not_mem_nil, or_false] at hz; rcases hz with rfl; exact ⟨by decide, "java/lang/IllegalArgumentException", by decide +kernel, by decide, by decide⟩) rfl (by decide) (by decide +kernel) (fun q => ?_)
      refine j_astore (lv' := (5, .ref q) :: [(0, .ref (al 0 0)), (1, .int f), (2, .int t), (3, .int m), (4, .ref (al 70 0))]) cx dL_giveBack_19 (by decide) rfl (pc' := 21) rfl ?_
      refine j_iconst (v := 2) cx dL_giveBack_21 (by decide) (pc' := 22) rfl ?_
      exact j_iret (ty := .int) cx hlk hr rfl (Nat.le_of_ble_eq_true rfl) (Nat.le_of_ble_eq_true rfl) dL_giveBack_22 (lP_n hk (by decide))
    · subst hE2
      refine jx_catch cx htb [⟨0, 12, 15, 13⟩, ⟨0, 12, 19, 15⟩] ⟨0, 12, 23, 51⟩ [] rfl (by decide) (by intro z hz; simp only [List.mem_cons, List.not_mem_nil, or_false] at hz; rcases hz with rfl | rfl; exact ⟨by decide, "java/lang/IllegalArgumentException", by decide +kernel, by decide, by decide⟩; exact ⟨by decide, "java/lang/IllegalStateException", by decide +kernel, by decide, by decide⟩) rfl (by decide) (by decide +kernel) (fun q => ?_)
      refine j_astore (lv' := (5, .ref q) :: [(0, .ref (al 0 0)), (1, .int f), (2, .int t), (3, .int m), (4, .ref (al 70 0))]) cx dL_giveBack_23 (by decide) rfl (pc' := 25) rfl ?_
      refine j_iconst (v := 3) cx dL_giveBack_25 (by decide) (pc' := 26) rfl ?_
      exact j_iret (ty := .int) cx hlk hr rfl (Nat.le_of_ble_eq_true rfl) (Nat.le_of_ble_eq_true rfl) dL_giveBack_26 (lP_n hk (by decide))
  obtain ⟨hk, e1, e2, e3, e4⟩ := h9
  subst v9 al9 sh9 S9
  refine J.stk (st2 := [.int ((fMove S f.toNatClampNeg t.toNatClampNeg m) 8 f.toNatClampNeg t.toNatClampNeg - m), .int 0, .ref (al 70 0)]) rfl ?_
  refine j_i2l cx dL_giveBack_10 rfl (pc' := 11) rfl ?_
  refine j_last (jn := 0) cx hO rfl (by unfold vp_in; decide) rfl rfl dL_giveBack_11 (pc' := 12) rfl ?_
  refine j_goto (tgt := 27) cx dL_giveBack_12 (by decide) ?_
  refine j_iconst (v := 0) cx dL_giveBack_27 (by decide) (pc' := 28) rfl ?_
  exact j_iret (ty := .int) cx hlk hr rfl (Nat.le_of_ble_eq_true rfl) (Nat.le_of_ble_eq_true rfl) dL_giveBack_28 (lP_0 hk)
set_option maxHeartbeats 4000000 in
set_option maxRecDepth 100000 in
theorem c_L_minutes {l : Launch} (hl0 : l.stackTraces = false) {Z : yL} {al : yAl} {sh : ySh} {S : yS} {fo : Nat → Int64} {nm ns : Nat} {mu : Nat → Nat} {d : Int32} (hY : YC Z al sh nm ns mu) (hO : sh 70 0 = some (yLo Z fo)) : Ct l yL_minutes wsL_minutes ({ frames := 8, cells := 1, slots := 6, locals := 131 }) 1 6 Z [.ref (al 0 0), .int d, .ref (al 70 0)] al sh S (lP Z al sh (kDep d) fo (S 5 0 d.toNatClampNeg) S S) := by
  refine Ct.ofH (lv := [(0, .ref (al 0 0)), (1, .int d), (2, .ref (al 70 0))]) (by decide) rfl (Nat.le_of_ble_eq_true rfl) rfl ?_
  intro p_ e_ s_ m_ below_ meth_ c_ cx hlk hr htb
  refine j_aload_n (j := 2) cx dL_minutes_0 rfl rfl (pc' := 1) rfl ?_
  refine j_iconst (v := 0) cx dL_minutes_1 (by decide) (pc' := 2) rfl ?_
  refine j_aload_n (j := 0) cx dL_minutes_2 rfl rfl (pc' := 3) rfl ?_
  refine j_iload_n (j := 1) cx dL_minutes_3 rfl rfl (pc' := 4) rfl ?_
  refine j_cVXP (cells1 := 1) (slots1 := 6) (As := [.int d]) (rest := [.int 0, .ref (al 70 0)]) cx (c_X2_minutes hl0 hY) gL_minutes_X2_minutes rfl rfl rfl 1 rfl (by decide +kernel) ⟨(Nat.le_of_ble_eq_true rfl), (Nat.le_of_ble_eq_true rfl)⟩ hY.1 rfl rfl rfl rfl (Nat.le_of_ble_eq_true rfl) dL_minutes_4 ⟨(Nat.le_of_ble_eq_true rfl), (Nat.le_of_ble_eq_true rfl)⟩ (pc' := 7) rfl rfl rfl (fun E hE => ?_) (fun v9 al9 sh9 S9 h9 => ?_)
  · obtain ⟨q9, hq, hE2, hk⟩ := hE
    simp only [List.mem_cons, List.not_mem_nil, or_false] at hq
    rcases hq with rfl
    · subst hE2
      refine jx_catch cx htb [] ⟨0, 9, 12, 13⟩ [] rfl (by decide) (fun z hz => by cases hz) rfl (by decide) (by decide +kernel) (fun q => ?_)
      refine j_astore_n (lv' := (3, .ref q) :: [(0, .ref (al 0 0)), (1, .int d), (2, .ref (al 70 0))]) cx dL_minutes_12 rfl (by decide) rfl (pc' := 13) rfl ?_
      refine j_iconst (v := 1) cx dL_minutes_13 (by decide) (pc' := 14) rfl ?_
      exact j_iret (ty := .int) cx hlk hr rfl (Nat.le_of_ble_eq_true rfl) (Nat.le_of_ble_eq_true rfl) dL_minutes_14 (lP_n hk (by decide))
  obtain ⟨hk, e1, e2, e3, e4⟩ := h9
  subst v9 al9 sh9 S9
  refine J.stk (st2 := [.int (S 5 0 d.toNatClampNeg), .int 0, .ref (al 70 0)]) rfl ?_
  refine j_i2l cx dL_minutes_7 rfl (pc' := 8) rfl ?_
  refine j_last (jn := 0) cx hO rfl (by unfold vp_in; decide) rfl rfl dL_minutes_8 (pc' := 9) rfl ?_
  refine j_goto (tgt := 15) cx dL_minutes_9 (by decide) ?_
  refine j_iconst (v := 0) cx dL_minutes_15 (by decide) (pc' := 16) rfl ?_
  exact j_iret (ty := .int) cx hlk hr rfl (Nat.le_of_ble_eq_true rfl) (Nat.le_of_ble_eq_true rfl) dL_minutes_16 (lP_0 hk)
set_option maxHeartbeats 4000000 in
set_option maxRecDepth 100000 in
theorem c_L_minutesBySessions {l : Launch} (hl0 : l.stackTraces = false) {Z : yL} {al : yAl} {sh : ySh} {S : yS} {fo : Nat → Int64} {nm ns : Nat} {mu : Nat → Nat} {d : Int32} (hY : YC Z al sh nm ns mu) (hs11 : S 11 0 2 = nI ns) (hO : sh 70 0 = some (yLo Z fo)) : Ct l yL_minutesBySessions wsL_minutesBySessions ({ frames := 10, cells := 1, slots := 6, locals := 177 }) 1 6 Z [.ref (al 0 0), .int d, .ref (al 70 0)] al sh S (lP Z al sh (kDep d) fo (mBy S d.toNatClampNeg ns) S S) := by
  refine Ct.ofH (lv := [(0, .ref (al 0 0)), (1, .int d), (2, .ref (al 70 0))]) (by decide) rfl (Nat.le_of_ble_eq_true rfl) rfl ?_
  intro p_ e_ s_ m_ below_ meth_ c_ cx hlk hr htb
  refine j_aload_n (j := 2) cx dL_minutesBySessions_0 rfl rfl (pc' := 1) rfl ?_
  refine j_iconst (v := 0) cx dL_minutesBySessions_1 (by decide) (pc' := 2) rfl ?_
  refine j_aload_n (j := 0) cx dL_minutesBySessions_2 rfl rfl (pc' := 3) rfl ?_
  refine j_iload_n (j := 1) cx dL_minutesBySessions_3 rfl rfl (pc' := 4) rfl ?_
  refine j_cVXP (cells1 := 1) (slots1 := 6) (As := [.int d]) (rest := [.int 0, .ref (al 70 0)]) cx (c_X2_minutesBySessions hl0 hY hs11) gL_minutesBySessions_X2_minutesBySessions rfl rfl rfl 1 rfl (by decide +kernel) ⟨(Nat.le_of_ble_eq_true rfl), (Nat.le_of_ble_eq_true rfl)⟩ hY.1 rfl rfl rfl rfl (Nat.le_of_ble_eq_true rfl) dL_minutesBySessions_4 ⟨(Nat.le_of_ble_eq_true rfl), (Nat.le_of_ble_eq_true rfl)⟩ (pc' := 7) rfl rfl rfl (fun E hE => ?_) (fun v9 al9 sh9 S9 h9 => ?_)
  · obtain ⟨q9, hq, hE2, hk⟩ := hE
    simp only [List.mem_cons, List.not_mem_nil, or_false] at hq
    rcases hq with rfl
    · subst hE2
      refine jx_catch cx htb [] ⟨0, 9, 12, 13⟩ [] rfl (by decide) (fun z hz => by cases hz) rfl (by decide) (by decide +kernel) (fun q => ?_)
      refine j_astore_n (lv' := (3, .ref q) :: [(0, .ref (al 0 0)), (1, .int d), (2, .ref (al 70 0))]) cx dL_minutesBySessions_12 rfl (by decide) rfl (pc' := 13) rfl ?_
      refine j_iconst (v := 1) cx dL_minutesBySessions_13 (by decide) (pc' := 14) rfl ?_
      exact j_iret (ty := .int) cx hlk hr rfl (Nat.le_of_ble_eq_true rfl) (Nat.le_of_ble_eq_true rfl) dL_minutesBySessions_14 (lP_n hk (by decide))
  obtain ⟨hk, e1, e2, e3, e4⟩ := h9
  subst v9 al9 sh9 S9
  refine J.stk (st2 := [.int (mBy S d.toNatClampNeg ns), .int 0, .ref (al 70 0)]) rfl ?_
  refine j_i2l cx dL_minutesBySessions_7 rfl (pc' := 8) rfl ?_
  refine j_last (jn := 0) cx hO rfl (by unfold vp_in; decide) rfl rfl dL_minutesBySessions_8 (pc' := 9) rfl ?_
  refine j_goto (tgt := 15) cx dL_minutesBySessions_9 (by decide) ?_
  refine j_iconst (v := 0) cx dL_minutesBySessions_15 (by decide) (pc' := 16) rfl ?_
  exact j_iret (ty := .int) cx hlk hr rfl (Nat.le_of_ble_eq_true rfl) (Nat.le_of_ble_eq_true rfl) dL_minutesBySessions_16 (lP_0 hk)
set_option maxHeartbeats 4000000 in
set_option maxRecDepth 100000 in
theorem c_L_logIn {l : Launch} (hl0 : l.stackTraces = false) {Z : yL} {al : yAl} {sh : ySh} {S : yS} {fo : Nat → Int64} {nm ns : Nat} {mu : Nat → Nat} {u p : Int32} (hY : YC Z al sh nm ns mu) (hs9 : S 9 0 2 = nI nm) (hs11 : S 11 0 2 = nI ns) (hFr : yFree sh nm ns) (hds : ∀ u, u < 10 → vp_in (S 4 0 u) 4) (hO : sh 70 0 = some (yLo Z fo)) : Ct l yL_logIn wsL_logIn ({ frames := 11, cells := 7, slots := 100, locals := 202 }) 7 100 Z [.ref (al 0 0), .int u, .int p, .ref (al 70 0)] al sh S (aLP Z al sh (kIn u p (lOwns S u 0 ns = true) ns (S 5 0 (S 4 0 u.toNatClampNeg).toNatClampNeg) (lBest S p 0 none nm)) fo (nI ns) (lPost Z al sh S nm ns mu u p) S) := by
  refine Ct.ofH (lv := [(0, .ref (al 0 0)), (1, .int u), (2, .int p), (3, .ref (al 70 0))]) (by decide) rfl (Nat.le_of_ble_eq_true rfl) rfl ?_
  intro p_ e_ s_ m_ below_ meth_ c_ cx hlk hr htb
  refine j_aload_n (j := 3) cx dL_logIn_0 rfl rfl (pc' := 1) rfl ?_
  refine j_iconst (v := 0) cx dL_logIn_1 (by decide) (pc' := 2) rfl ?_
  refine j_aload_n (j := 0) cx dL_logIn_2 rfl rfl (pc' := 3) rfl ?_
  refine j_iload_n (j := 1) cx dL_logIn_3 rfl rfl (pc' := 4) rfl ?_
  refine j_iload_n (j := 2) cx dL_logIn_4 rfl rfl (pc' := 5) rfl ?_
  refine j_cVXP (cells1 := 7) (slots1 := 100) (As := [.int u, .int p]) (rest := [.int 0, .ref (al 70 0)]) cx (c_X2_logIn hl0 hY hs9 hs11 hFr hds) gL_logIn_X2_logIn rfl rfl rfl 2 rfl (by decide +kernel) ⟨(Nat.le_of_ble_eq_true rfl), (Nat.le_of_ble_eq_true rfl)⟩ hY.1 rfl rfl rfl rfl (Nat.le_of_ble_eq_true rfl) dL_logIn_5 ⟨(Nat.le_of_ble_eq_true rfl), (Nat.le_of_ble_eq_true rfl)⟩ (pc' := 8) rfl rfl rfl (fun E hE => ?_) (fun v9 al9 sh9 S9 h9 => ?_)
  · obtain ⟨q9, hq, hE2, hk⟩ := hE
    simp only [List.mem_cons, List.not_mem_nil, or_false] at hq
    rcases hq with rfl | rfl | rfl | rfl
    · subst hE2
      refine jx_catch cx htb [] ⟨0, 10, 13, 13⟩ [⟨0, 10, 17, 15⟩, ⟨0, 10, 21, 51⟩, ⟨0, 10, 25, 36⟩] rfl (by decide) (fun z hz => by cases hz) rfl (by decide) (by decide +kernel) (fun q => ?_)
      refine j_astore (lv' := (4, .ref q) :: [(0, .ref (al 0 0)), (1, .int u), (2, .int p), (3, .ref (al 70 0))]) cx dL_logIn_13 (by decide) rfl (pc' := 15) rfl ?_
      refine j_iconst (v := 1) cx dL_logIn_15 (by decide) (pc' := 16) rfl ?_
      exact j_iret (ty := .int) cx hlk hr rfl (Nat.le_of_ble_eq_true rfl) (Nat.le_of_ble_eq_true rfl) dL_logIn_16 (aLP_n hk (by decide))
    · subst hE2
      refine jx_catch cx htb [⟨0, 10, 13, 13⟩] ⟨0, 10, 17, 15⟩ [⟨0, 10, 21, 51⟩, ⟨0, 10, 25, 36⟩] rfl (by decide) (by intro z hz; simp only [List.mem_cons, List.not_mem_nil, or_false] at hz; rcases hz with rfl; exact ⟨by decide, "java/lang/IllegalArgumentException", by decide +kernel, by decide, by decide⟩) rfl (by decide) (by decide +kernel) (fun q => ?_)
      refine j_astore (lv' := (4, .ref q) :: [(0, .ref (al 0 0)), (1, .int u), (2, .int p), (3, .ref (al 70 0))]) cx dL_logIn_17 (by decide) rfl (pc' := 19) rfl ?_
      refine j_iconst (v := 2) cx dL_logIn_19 (by decide) (pc' := 20) rfl ?_
      exact j_iret (ty := .int) cx hlk hr rfl (Nat.le_of_ble_eq_true rfl) (Nat.le_of_ble_eq_true rfl) dL_logIn_20 (aLP_n hk (by decide))
    · subst hE2
      refine jx_catch cx htb [⟨0, 10, 13, 13⟩, ⟨0, 10, 17, 15⟩] ⟨0, 10, 21, 51⟩ [⟨0, 10, 25, 36⟩] rfl (by decide) (by intro z hz; simp only [List.mem_cons, List.not_mem_nil, or_false] at hz; rcases hz with rfl | rfl; exact ⟨by decide, "java/lang/IllegalArgumentException", by decide +kernel, by decide, by decide⟩; exact ⟨by decide, "java/lang/IllegalStateException", by decide +kernel, by decide, by decide⟩) rfl (by decide) (by decide +kernel) (fun q => ?_)
      refine j_astore (lv' := (4, .ref q) :: [(0, .ref (al 0 0)), (1, .int u), (2, .int p), (3, .ref (al 70 0))]) cx dL_logIn_21 (by decide) rfl (pc' := 23) rfl ?_
      refine j_iconst (v := 3) cx dL_logIn_23 (by decide) (pc' := 24) rfl ?_
      exact j_iret (ty := .int) cx hlk hr rfl (Nat.le_of_ble_eq_true rfl) (Nat.le_of_ble_eq_true rfl) dL_logIn_24 (aLP_n hk (by decide))
    · subst hE2
      refine jx_catch cx htb [⟨0, 10, 13, 13⟩, ⟨0, 10, 17, 15⟩, ⟨0, 10, 21, 51⟩] ⟨0, 10, 25, 36⟩ [] rfl (by decide) (by intro z hz; simp only [List.mem_cons, List.not_mem_nil, or_false] at hz; rcases hz with rfl | rfl | rfl; exact ⟨by decide, "java/lang/IllegalArgumentException", by decide +kernel, by decide, by decide⟩; exact ⟨by decide, "java/lang/IllegalStateException", by decide +kernel, by decide, by decide⟩; exact ⟨by decide, "java/lang/UnsupportedOperationException", by decide +kernel, by decide, by decide⟩) rfl (by decide) (by decide +kernel) (fun q => ?_)
      refine j_astore (lv' := (4, .ref q) :: [(0, .ref (al 0 0)), (1, .int u), (2, .int p), (3, .ref (al 70 0))]) cx dL_logIn_25 (by decide) rfl (pc' := 27) rfl ?_
      refine j_iconst (v := 4) cx dL_logIn_27 (by decide) (pc' := 28) rfl ?_
      exact j_iret (ty := .int) cx hlk hr rfl (Nat.le_of_ble_eq_true rfl) (Nat.le_of_ble_eq_true rfl) dL_logIn_28 (aLP_n hk (by decide))
  have h9c := h9
  obtain ⟨m9, b1, b2, hk, e1, a1, a2, hk4, a4, -⟩ := h9
  subst v9
  refine J.stk (st2 := [.int (nI ns), .int 0, .ref (al 70 0)]) rfl ?_
  refine j_i2l cx dL_logIn_8 rfl (pc' := 9) rfl ?_
  refine j_last (jn := 0) cx ((hk4 70 0 (by decide)).2.trans hO) rfl (by unfold vp_in; decide) rfl (hk4 70 0 (by decide)).1.symm dL_logIn_9 (pc' := 10) rfl ?_
  refine j_goto (tgt := 29) cx dL_logIn_10 (by decide) ?_
  refine j_iconst (v := 0) cx dL_logIn_29 (by decide) (pc' := 30) rfl ?_
  exact j_iret (ty := .int) cx hlk hr rfl (Nat.le_of_ble_eq_true rfl) (Nat.le_of_ble_eq_true rfl) dL_logIn_30 (aLP_0 hk ((hk4 70 0 (by decide)).2.trans hO) h9c)
set_option maxHeartbeats 4000000 in
set_option maxRecDepth 100000 in
theorem c_L_logOut {l : Launch} (hl0 : l.stackTraces = false) {Z : yL} {al : yAl} {sh : ySh} {S : yS} {fo : Nat → Int64} {nm ns : Nat} {mu : Nat → Nat} {x : Int32} (hY : YC Z al sh nm ns mu) (hs11 : S 11 0 2 = nI ns) (hO : sh 70 0 = some (yLo Z fo)) : Ct l yL_logOut wsL_logOut ({ frames := 12, cells := 2, slots := 12, locals := 219 }) 2 12 Z [.ref (al 0 0), .int x, .ref (al 70 0)] al sh S (lP Z al sh (kLive ns x (S 21 x.toNatClampNeg 6 = 97)) fo (qIn (fEnd S (mu x.toNatClampNeg) x.toNatClampNeg 108) x.toNatClampNeg) (fEnd S (mu x.toNatClampNeg) x.toNatClampNeg 108) S) := by
  refine Ct.ofH (lv := [(0, .ref (al 0 0)), (1, .int x), (2, .ref (al 70 0))]) (by decide) rfl (Nat.le_of_ble_eq_true rfl) rfl ?_
  intro p_ e_ s_ m_ below_ meth_ c_ cx hlk hr htb
  refine j_aload_n (j := 2) cx dL_logOut_0 rfl rfl (pc' := 1) rfl ?_
  refine j_iconst (v := 0) cx dL_logOut_1 (by decide) (pc' := 2) rfl ?_
  refine j_aload_n (j := 0) cx dL_logOut_2 rfl rfl (pc' := 3) rfl ?_
  refine j_iload_n (j := 1) cx dL_logOut_3 rfl rfl (pc' := 4) rfl ?_
  refine j_cVXP (cells1 := 2) (slots1 := 12) (As := [.int x]) (rest := [.int 0, .ref (al 70 0)]) cx (c_X2_logOut hl0 hY hs11) gL_logOut_X2_logOut rfl rfl rfl 1 rfl (by decide +kernel) ⟨(Nat.le_of_ble_eq_true rfl), (Nat.le_of_ble_eq_true rfl)⟩ hY.1 rfl rfl rfl rfl (Nat.le_of_ble_eq_true rfl) dL_logOut_4 ⟨(Nat.le_of_ble_eq_true rfl), (Nat.le_of_ble_eq_true rfl)⟩ (pc' := 7) rfl rfl rfl (fun E hE => ?_) (fun v9 al9 sh9 S9 h9 => ?_)
  · obtain ⟨q9, hq, hE2, hk⟩ := hE
    simp only [List.mem_cons, List.not_mem_nil, or_false] at hq
    rcases hq with rfl | rfl
    · subst hE2
      refine jx_catch cx htb [] ⟨0, 9, 12, 24⟩ [⟨0, 9, 15, 15⟩] rfl (by decide) (fun z hz => by cases hz) rfl (by decide) (by decide +kernel) (fun q => ?_)
      refine j_astore_n (lv' := (3, .ref q) :: [(0, .ref (al 0 0)), (1, .int x), (2, .ref (al 70 0))]) cx dL_logOut_12 rfl (by decide) rfl (pc' := 13) rfl ?_
      refine j_iconst (v := 1) cx dL_logOut_13 (by decide) (pc' := 14) rfl ?_
      exact j_iret (ty := .int) cx hlk hr rfl (Nat.le_of_ble_eq_true rfl) (Nat.le_of_ble_eq_true rfl) dL_logOut_14 (lP_n hk (by decide))
    · subst hE2
      refine jx_catch cx htb [⟨0, 9, 12, 24⟩] ⟨0, 9, 15, 15⟩ [] rfl (by decide) (by intro z hz; simp only [List.mem_cons, List.not_mem_nil, or_false] at hz; rcases hz with rfl; exact ⟨by decide, "java/lang/IndexOutOfBoundsException", by decide +kernel, by decide, by decide⟩) rfl (by decide) (by decide +kernel) (fun q => ?_)
      refine j_astore_n (lv' := (3, .ref q) :: [(0, .ref (al 0 0)), (1, .int x), (2, .ref (al 70 0))]) cx dL_logOut_15 rfl (by decide) rfl (pc' := 16) rfl ?_
      refine j_iconst (v := 2) cx dL_logOut_16 (by decide) (pc' := 17) rfl ?_
      exact j_iret (ty := .int) cx hlk hr rfl (Nat.le_of_ble_eq_true rfl) (Nat.le_of_ble_eq_true rfl) dL_logOut_17 (lP_n hk (by decide))
  obtain ⟨hk, e1, e2, e3, e4⟩ := h9
  subst v9 al9 sh9 S9
  refine J.stk (st2 := [.int (qIn (fEnd S (mu x.toNatClampNeg) x.toNatClampNeg 108) x.toNatClampNeg), .int 0, .ref (al 70 0)]) rfl ?_
  refine j_i2l cx dL_logOut_7 rfl (pc' := 8) rfl ?_
  refine j_last (jn := 0) cx hO rfl (by unfold vp_in; decide) rfl rfl dL_logOut_8 (pc' := 9) rfl ?_
  refine j_goto (tgt := 18) cx dL_logOut_9 (by decide) ?_
  refine j_iconst (v := 0) cx dL_logOut_18 (by decide) (pc' := 19) rfl ?_
  exact j_iret (ty := .int) cx hlk hr rfl (Nat.le_of_ble_eq_true rfl) (Nat.le_of_ble_eq_true rfl) dL_logOut_19 (lP_0 hk)
set_option maxHeartbeats 4000000 in
set_option maxRecDepth 100000 in
theorem c_L_use {l : Launch} (hl0 : l.stackTraces = false) {Z : yL} {al : yAl} {sh : ySh} {S : yS} {fo : Nat → Int64} {nm ns : Nat} {mu : Nat → Nat} {x : Int32} (hY : YC Z al sh nm ns mu) (hs11 : S 11 0 2 = nI ns) (hO : sh 70 0 = some (yLo Z fo)) : Ct l yL_use wsL_use ({ frames := 12, cells := 2, slots := 12, locals := 220 }) 2 12 Z [.ref (al 0 0), .int x, .ref (al 70 0)] al sh S (lP Z al sh (kLive ns x (S 21 x.toNatClampNeg 6 = 97)) fo (S 0 0 9 - S 21 x.toNatClampNeg 5) (sup S 21 x.toNatClampNeg 5 (S 0 0 9)) S) := by
  refine Ct.ofH (lv := [(0, .ref (al 0 0)), (1, .int x), (2, .ref (al 70 0))]) (by decide) rfl (Nat.le_of_ble_eq_true rfl) rfl ?_
  intro p_ e_ s_ m_ below_ meth_ c_ cx hlk hr htb
  refine j_aload_n (j := 2) cx dL_use_0 rfl rfl (pc' := 1) rfl ?_
  refine j_iconst (v := 0) cx dL_use_1 (by decide) (pc' := 2) rfl ?_
  refine j_aload_n (j := 0) cx dL_use_2 rfl rfl (pc' := 3) rfl ?_
  refine j_iload_n (j := 1) cx dL_use_3 rfl rfl (pc' := 4) rfl ?_
  refine j_cVXP (cells1 := 2) (slots1 := 12) (As := [.int x]) (rest := [.int 0, .ref (al 70 0)]) cx (c_X2_use hl0 hY hs11) gL_use_X2_use rfl rfl rfl 1 rfl (by decide +kernel) ⟨(Nat.le_of_ble_eq_true rfl), (Nat.le_of_ble_eq_true rfl)⟩ hY.1 rfl rfl rfl rfl (Nat.le_of_ble_eq_true rfl) dL_use_4 ⟨(Nat.le_of_ble_eq_true rfl), (Nat.le_of_ble_eq_true rfl)⟩ (pc' := 7) rfl rfl rfl (fun E hE => ?_) (fun v9 al9 sh9 S9 h9 => ?_)
  · obtain ⟨q9, hq, hE2, hk⟩ := hE
    simp only [List.mem_cons, List.not_mem_nil, or_false] at hq
    rcases hq with rfl | rfl
    · subst hE2
      refine jx_catch cx htb [] ⟨0, 9, 12, 24⟩ [⟨0, 9, 15, 15⟩] rfl (by decide) (fun z hz => by cases hz) rfl (by decide) (by decide +kernel) (fun q => ?_)
      refine j_astore_n (lv' := (3, .ref q) :: [(0, .ref (al 0 0)), (1, .int x), (2, .ref (al 70 0))]) cx dL_use_12 rfl (by decide) rfl (pc' := 13) rfl ?_
      refine j_iconst (v := 1) cx dL_use_13 (by decide) (pc' := 14) rfl ?_
      exact j_iret (ty := .int) cx hlk hr rfl (Nat.le_of_ble_eq_true rfl) (Nat.le_of_ble_eq_true rfl) dL_use_14 (lP_n hk (by decide))
    · subst hE2
      refine jx_catch cx htb [⟨0, 9, 12, 24⟩] ⟨0, 9, 15, 15⟩ [] rfl (by decide) (by intro z hz; simp only [List.mem_cons, List.not_mem_nil, or_false] at hz; rcases hz with rfl; exact ⟨by decide, "java/lang/IndexOutOfBoundsException", by decide +kernel, by decide, by decide⟩) rfl (by decide) (by decide +kernel) (fun q => ?_)
      refine j_astore_n (lv' := (3, .ref q) :: [(0, .ref (al 0 0)), (1, .int x), (2, .ref (al 70 0))]) cx dL_use_15 rfl (by decide) rfl (pc' := 16) rfl ?_
      refine j_iconst (v := 2) cx dL_use_16 (by decide) (pc' := 17) rfl ?_
      exact j_iret (ty := .int) cx hlk hr rfl (Nat.le_of_ble_eq_true rfl) (Nat.le_of_ble_eq_true rfl) dL_use_17 (lP_n hk (by decide))
  obtain ⟨hk, e1, e2, e3, e4⟩ := h9
  subst v9 al9 sh9 S9
  refine J.stk (st2 := [.int (S 0 0 9 - S 21 x.toNatClampNeg 5), .int 0, .ref (al 70 0)]) rfl ?_
  refine j_i2l cx dL_use_7 rfl (pc' := 8) rfl ?_
  refine j_last (jn := 0) cx hO rfl (by unfold vp_in; decide) rfl rfl dL_use_8 (pc' := 9) rfl ?_
  refine j_goto (tgt := 18) cx dL_use_9 (by decide) ?_
  refine j_iconst (v := 0) cx dL_use_18 (by decide) (pc' := 19) rfl ?_
  exact j_iret (ty := .int) cx hlk hr rfl (Nat.le_of_ble_eq_true rfl) (Nat.le_of_ble_eq_true rfl) dL_use_19 (lP_0 hk)
set_option maxHeartbeats 4000000 in
set_option maxRecDepth 100000 in
theorem c_L_takeOver {l : Launch} (hl0 : l.stackTraces = false) {Z : yL} {al : yAl} {sh : ySh} {S : yS} {fo : Nat → Int64} {nm ns : Nat} {mu : Nat → Nat} {x u : Int32} (hY : YC Z al sh nm ns mu) (hs11 : S 11 0 2 = nI ns) (hds : ∀ u, u < 10 → vp_in (S 4 0 u) 4) (hO : sh 70 0 = some (yLo Z fo)) : Ct l yL_takeOver wsL_takeOver ({ frames := 11, cells := 4, slots := 24, locals := 198 }) 4 24 Z [.ref (al 0 0), .int x, .int u, .ref (al 70 0)] al sh S (lP Z al sh (kTake ns x u (S 21 x.toNatClampNeg 4) (S 21 x.toNatClampNeg 6 = 97) (S 5 0 (S 4 0 u.toNatClampNeg).toNatClampNeg)) fo (S 21 x.toNatClampNeg 4) (fTo S x.toNatClampNeg u) S) := by
  refine Ct.ofH (lv := [(0, .ref (al 0 0)), (1, .int x), (2, .int u), (3, .ref (al 70 0))]) (by decide) rfl (Nat.le_of_ble_eq_true rfl) rfl ?_
  intro p_ e_ s_ m_ below_ meth_ c_ cx hlk hr htb
  refine j_aload_n (j := 3) cx dL_takeOver_0 rfl rfl (pc' := 1) rfl ?_
  refine j_iconst (v := 0) cx dL_takeOver_1 (by decide) (pc' := 2) rfl ?_
  refine j_aload_n (j := 0) cx dL_takeOver_2 rfl rfl (pc' := 3) rfl ?_
  refine j_iload_n (j := 1) cx dL_takeOver_3 rfl rfl (pc' := 4) rfl ?_
  refine j_iload_n (j := 2) cx dL_takeOver_4 rfl rfl (pc' := 5) rfl ?_
  refine j_cVXP (cells1 := 4) (slots1 := 24) (As := [.int x, .int u]) (rest := [.int 0, .ref (al 70 0)]) cx (c_X2_takeOver hl0 hY hs11 hds) gL_takeOver_X2_takeOver rfl rfl rfl 2 rfl (by decide +kernel) ⟨(Nat.le_of_ble_eq_true rfl), (Nat.le_of_ble_eq_true rfl)⟩ hY.1 rfl rfl rfl rfl (Nat.le_of_ble_eq_true rfl) dL_takeOver_5 ⟨(Nat.le_of_ble_eq_true rfl), (Nat.le_of_ble_eq_true rfl)⟩ (pc' := 8) rfl rfl rfl (fun E hE => ?_) (fun v9 al9 sh9 S9 h9 => ?_)
  · obtain ⟨q9, hq, hE2, hk⟩ := hE
    simp only [List.mem_cons, List.not_mem_nil, or_false] at hq
    rcases hq with rfl | rfl | rfl | rfl
    · subst hE2
      refine jx_catch cx htb [] ⟨0, 10, 13, 24⟩ [⟨0, 10, 17, 13⟩, ⟨0, 10, 21, 15⟩, ⟨0, 10, 25, 51⟩] rfl (by decide) (fun z hz => by cases hz) rfl (by decide) (by decide +kernel) (fun q => ?_)
      refine j_astore (lv' := (4, .ref q) :: [(0, .ref (al 0 0)), (1, .int x), (2, .int u), (3, .ref (al 70 0))]) cx dL_takeOver_13 (by decide) rfl (pc' := 15) rfl ?_
      refine j_iconst (v := 1) cx dL_takeOver_15 (by decide) (pc' := 16) rfl ?_
      exact j_iret (ty := .int) cx hlk hr rfl (Nat.le_of_ble_eq_true rfl) (Nat.le_of_ble_eq_true rfl) dL_takeOver_16 (lP_n hk (by decide))
    · subst hE2
      refine jx_catch cx htb [⟨0, 10, 13, 24⟩] ⟨0, 10, 17, 13⟩ [⟨0, 10, 21, 15⟩, ⟨0, 10, 25, 51⟩] rfl (by decide) (by intro z hz; simp only [List.mem_cons, List.not_mem_nil, or_false] at hz; rcases hz with rfl; exact ⟨by decide, "java/lang/IndexOutOfBoundsException", by decide +kernel, by decide, by decide⟩) rfl (by decide) (by decide +kernel) (fun q => ?_)
      refine j_astore (lv' := (4, .ref q) :: [(0, .ref (al 0 0)), (1, .int x), (2, .int u), (3, .ref (al 70 0))]) cx dL_takeOver_17 (by decide) rfl (pc' := 19) rfl ?_
      refine j_iconst (v := 2) cx dL_takeOver_19 (by decide) (pc' := 20) rfl ?_
      exact j_iret (ty := .int) cx hlk hr rfl (Nat.le_of_ble_eq_true rfl) (Nat.le_of_ble_eq_true rfl) dL_takeOver_20 (lP_n hk (by decide))
    · subst hE2
      refine jx_catch cx htb [⟨0, 10, 13, 24⟩, ⟨0, 10, 17, 13⟩] ⟨0, 10, 21, 15⟩ [⟨0, 10, 25, 51⟩] rfl (by decide) (by intro z hz; simp only [List.mem_cons, List.not_mem_nil, or_false] at hz; rcases hz with rfl | rfl; exact ⟨by decide, "java/lang/IndexOutOfBoundsException", by decide +kernel, by decide, by decide⟩; exact ⟨by decide, "java/lang/IllegalArgumentException", by decide +kernel, by decide, by decide⟩) rfl (by decide) (by decide +kernel) (fun q => ?_)
      refine j_astore (lv' := (4, .ref q) :: [(0, .ref (al 0 0)), (1, .int x), (2, .int u), (3, .ref (al 70 0))]) cx dL_takeOver_21 (by decide) rfl (pc' := 23) rfl ?_
      refine j_iconst (v := 3) cx dL_takeOver_23 (by decide) (pc' := 24) rfl ?_
      exact j_iret (ty := .int) cx hlk hr rfl (Nat.le_of_ble_eq_true rfl) (Nat.le_of_ble_eq_true rfl) dL_takeOver_24 (lP_n hk (by decide))
    · subst hE2
      refine jx_catch cx htb [⟨0, 10, 13, 24⟩, ⟨0, 10, 17, 13⟩, ⟨0, 10, 21, 15⟩] ⟨0, 10, 25, 51⟩ [] rfl (by decide) (by intro z hz; simp only [List.mem_cons, List.not_mem_nil, or_false] at hz; rcases hz with rfl | rfl | rfl; exact ⟨by decide, "java/lang/IndexOutOfBoundsException", by decide +kernel, by decide, by decide⟩; exact ⟨by decide, "java/lang/IllegalArgumentException", by decide +kernel, by decide, by decide⟩; exact ⟨by decide, "java/lang/IllegalStateException", by decide +kernel, by decide, by decide⟩) rfl (by decide) (by decide +kernel) (fun q => ?_)
      refine j_astore (lv' := (4, .ref q) :: [(0, .ref (al 0 0)), (1, .int x), (2, .int u), (3, .ref (al 70 0))]) cx dL_takeOver_25 (by decide) rfl (pc' := 27) rfl ?_
      refine j_iconst (v := 4) cx dL_takeOver_27 (by decide) (pc' := 28) rfl ?_
      exact j_iret (ty := .int) cx hlk hr rfl (Nat.le_of_ble_eq_true rfl) (Nat.le_of_ble_eq_true rfl) dL_takeOver_28 (lP_n hk (by decide))
  obtain ⟨hk, e1, e2, e3, e4⟩ := h9
  subst v9 al9 sh9 S9
  refine J.stk (st2 := [.int (S 21 x.toNatClampNeg 4), .int 0, .ref (al 70 0)]) rfl ?_
  refine j_i2l cx dL_takeOver_8 rfl (pc' := 9) rfl ?_
  refine j_last (jn := 0) cx hO rfl (by unfold vp_in; decide) rfl rfl dL_takeOver_9 (pc' := 10) rfl ?_
  refine j_goto (tgt := 29) cx dL_takeOver_10 (by decide) ?_
  refine j_iconst (v := 0) cx dL_takeOver_29 (by decide) (pc' := 30) rfl ?_
  exact j_iret (ty := .int) cx hlk hr rfl (Nat.le_of_ble_eq_true rfl) (Nat.le_of_ble_eq_true rfl) dL_takeOver_30 (lP_0 hk)
set_option maxHeartbeats 4000000 in
set_option maxRecDepth 100000 in
theorem c_L_handBack {l : Launch} (hl0 : l.stackTraces = false) {Z : yL} {al : yAl} {sh : ySh} {S : yS} {fo : Nat → Int64} {nm ns : Nat} {mu : Nat → Nat} {x : Int32} (hY : YC Z al sh nm ns mu) (hs11 : S 11 0 2 = nI ns) (hO : sh 70 0 = some (yLo Z fo)) : Ct l yL_handBack wsL_handBack ({ frames := 12, cells := 3, slots := 18, locals := 219 }) 3 18 Z [.ref (al 0 0), .int x, .ref (al 70 0)] al sh S (lP Z al sh (kHand ns x (S 21 x.toNatClampNeg 6 = 97) (S 21 x.toNatClampNeg 4 = S 21 x.toNatClampNeg 0)) fo (S 21 x.toNatClampNeg 4) (fTo S x.toNatClampNeg (S 21 x.toNatClampNeg 0)) S) := by
  refine Ct.ofH (lv := [(0, .ref (al 0 0)), (1, .int x), (2, .ref (al 70 0))]) (by decide) rfl (Nat.le_of_ble_eq_true rfl) rfl ?_
  intro p_ e_ s_ m_ below_ meth_ c_ cx hlk hr htb
  refine j_aload_n (j := 2) cx dL_handBack_0 rfl rfl (pc' := 1) rfl ?_
  refine j_iconst (v := 0) cx dL_handBack_1 (by decide) (pc' := 2) rfl ?_
  refine j_aload_n (j := 0) cx dL_handBack_2 rfl rfl (pc' := 3) rfl ?_
  refine j_iload_n (j := 1) cx dL_handBack_3 rfl rfl (pc' := 4) rfl ?_
  refine j_cVXP (cells1 := 3) (slots1 := 18) (As := [.int x]) (rest := [.int 0, .ref (al 70 0)]) cx (c_X2_handBack hl0 hY hs11) gL_handBack_X2_handBack rfl rfl rfl 1 rfl (by decide +kernel) ⟨(Nat.le_of_ble_eq_true rfl), (Nat.le_of_ble_eq_true rfl)⟩ hY.1 rfl rfl rfl rfl (Nat.le_of_ble_eq_true rfl) dL_handBack_4 ⟨(Nat.le_of_ble_eq_true rfl), (Nat.le_of_ble_eq_true rfl)⟩ (pc' := 7) rfl rfl rfl (fun E hE => ?_) (fun v9 al9 sh9 S9 h9 => ?_)
  · obtain ⟨q9, hq, hE2, hk⟩ := hE
    simp only [List.mem_cons, List.not_mem_nil, or_false] at hq
    rcases hq with rfl | rfl
    · subst hE2
      refine jx_catch cx htb [] ⟨0, 9, 12, 24⟩ [⟨0, 9, 15, 15⟩] rfl (by decide) (fun z hz => by cases hz) rfl (by decide) (by decide +kernel) (fun q => ?_)
      refine j_astore_n (lv' := (3, .ref q) :: [(0, .ref (al 0 0)), (1, .int x), (2, .ref (al 70 0))]) cx dL_handBack_12 rfl (by decide) rfl (pc' := 13) rfl ?_
      refine j_iconst (v := 1) cx dL_handBack_13 (by decide) (pc' := 14) rfl ?_
      exact j_iret (ty := .int) cx hlk hr rfl (Nat.le_of_ble_eq_true rfl) (Nat.le_of_ble_eq_true rfl) dL_handBack_14 (lP_n hk (by decide))
    · subst hE2
      refine jx_catch cx htb [⟨0, 9, 12, 24⟩] ⟨0, 9, 15, 15⟩ [] rfl (by decide) (by intro z hz; simp only [List.mem_cons, List.not_mem_nil, or_false] at hz; rcases hz with rfl; exact ⟨by decide, "java/lang/IndexOutOfBoundsException", by decide +kernel, by decide, by decide⟩) rfl (by decide) (by decide +kernel) (fun q => ?_)
      refine j_astore_n (lv' := (3, .ref q) :: [(0, .ref (al 0 0)), (1, .int x), (2, .ref (al 70 0))]) cx dL_handBack_15 rfl (by decide) rfl (pc' := 16) rfl ?_
      refine j_iconst (v := 2) cx dL_handBack_16 (by decide) (pc' := 17) rfl ?_
      exact j_iret (ty := .int) cx hlk hr rfl (Nat.le_of_ble_eq_true rfl) (Nat.le_of_ble_eq_true rfl) dL_handBack_17 (lP_n hk (by decide))
  obtain ⟨hk, e1, e2, e3, e4⟩ := h9
  subst v9 al9 sh9 S9
  refine J.stk (st2 := [.int (S 21 x.toNatClampNeg 4), .int 0, .ref (al 70 0)]) rfl ?_
  refine j_i2l cx dL_handBack_7 rfl (pc' := 8) rfl ?_
  refine j_last (jn := 0) cx hO rfl (by unfold vp_in; decide) rfl rfl dL_handBack_8 (pc' := 9) rfl ?_
  refine j_goto (tgt := 18) cx dL_handBack_9 (by decide) ?_
  refine j_iconst (v := 0) cx dL_handBack_18 (by decide) (pc' := 19) rfl ?_
  exact j_iret (ty := .int) cx hlk hr rfl (Nat.le_of_ble_eq_true rfl) (Nat.le_of_ble_eq_true rfl) dL_handBack_19 (lP_0 hk)
set_option maxHeartbeats 4000000 in
set_option maxRecDepth 100000 in
theorem c_L_print {l : Launch} (hl0 : l.stackTraces = false) {Z : yL} {al : yAl} {sh : ySh} {S : yS} {fo : Nat → Int64} {nm ns : Nat} {mu : Nat → Nat} {x g : Int32} (hY : YC Z al sh nm ns mu) (hs11 : S 11 0 2 = nI ns) (hcs : ∀ i, i < ns → vp_in (S 21 i 4) 10) (hds : ∀ u, u < 10 → vp_in (S 4 0 u) 4) (hrs : ∀ i, i < nm → vp_in (S 20 i 2) 3) (hO : sh 70 0 = some (yLo Z fo)) : Ct l yL_print wsL_print ({ frames := 11, cells := 4, slots := 24, locals := 200 }) 4 24 Z [.ref (al 0 0), .int x, .int g, .ref (al 70 0)] al sh S (lP Z al sh (kPrint ns x g (S 21 x.toNatClampNeg 6 = 97) (S 5 0 (cDep S x.toNatClampNeg))) fo (S 3 0 (S 20 (mu x.toNatClampNeg) 2).toNatClampNeg + g) (fPrint S (mu x.toNatClampNeg) x.toNatClampNeg g) S) := by
  refine Ct.ofH (lv := [(0, .ref (al 0 0)), (1, .int x), (2, .int g), (3, .ref (al 70 0))]) (by decide) rfl (Nat.le_of_ble_eq_true rfl) rfl ?_
  intro p_ e_ s_ m_ below_ meth_ c_ cx hlk hr htb
  refine j_aload_n (j := 3) cx dL_print_0 rfl rfl (pc' := 1) rfl ?_
  refine j_iconst (v := 0) cx dL_print_1 (by decide) (pc' := 2) rfl ?_
  refine j_aload_n (j := 0) cx dL_print_2 rfl rfl (pc' := 3) rfl ?_
  refine j_iload_n (j := 1) cx dL_print_3 rfl rfl (pc' := 4) rfl ?_
  refine j_iload_n (j := 2) cx dL_print_4 rfl rfl (pc' := 5) rfl ?_
  refine j_cVXP (cells1 := 4) (slots1 := 24) (As := [.int x, .int g]) (rest := [.int 0, .ref (al 70 0)]) cx (c_X2_print hl0 hY hs11 hcs hds hrs) gL_print_X2_print rfl rfl rfl 2 rfl (by decide +kernel) ⟨(Nat.le_of_ble_eq_true rfl), (Nat.le_of_ble_eq_true rfl)⟩ hY.1 rfl rfl rfl rfl (Nat.le_of_ble_eq_true rfl) dL_print_5 ⟨(Nat.le_of_ble_eq_true rfl), (Nat.le_of_ble_eq_true rfl)⟩ (pc' := 8) rfl rfl rfl (fun E hE => ?_) (fun v9 al9 sh9 S9 h9 => ?_)
  · obtain ⟨q9, hq, hE2, hk⟩ := hE
    simp only [List.mem_cons, List.not_mem_nil, or_false] at hq
    rcases hq with rfl | rfl | rfl | rfl
    · subst hE2
      refine jx_catch cx htb [] ⟨0, 10, 13, 24⟩ [⟨0, 10, 17, 13⟩, ⟨0, 10, 21, 15⟩, ⟨0, 10, 25, 51⟩] rfl (by decide) (fun z hz => by cases hz) rfl (by decide) (by decide +kernel) (fun q => ?_)
      refine j_astore (lv' := (4, .ref q) :: [(0, .ref (al 0 0)), (1, .int x), (2, .int g), (3, .ref (al 70 0))]) cx dL_print_13 (by decide) rfl (pc' := 15) rfl ?_
      refine j_iconst (v := 1) cx dL_print_15 (by decide) (pc' := 16) rfl ?_
      exact j_iret (ty := .int) cx hlk hr rfl (Nat.le_of_ble_eq_true rfl) (Nat.le_of_ble_eq_true rfl) dL_print_16 (lP_n hk (by decide))
    · subst hE2
      refine jx_catch cx htb [⟨0, 10, 13, 24⟩] ⟨0, 10, 17, 13⟩ [⟨0, 10, 21, 15⟩, ⟨0, 10, 25, 51⟩] rfl (by decide) (by intro z hz; simp only [List.mem_cons, List.not_mem_nil, or_false] at hz; rcases hz with rfl; exact ⟨by decide, "java/lang/IndexOutOfBoundsException", by decide +kernel, by decide, by decide⟩) rfl (by decide) (by decide +kernel) (fun q => ?_)
      refine j_astore (lv' := (4, .ref q) :: [(0, .ref (al 0 0)), (1, .int x), (2, .int g), (3, .ref (al 70 0))]) cx dL_print_17 (by decide) rfl (pc' := 19) rfl ?_
      refine j_iconst (v := 2) cx dL_print_19 (by decide) (pc' := 20) rfl ?_
      exact j_iret (ty := .int) cx hlk hr rfl (Nat.le_of_ble_eq_true rfl) (Nat.le_of_ble_eq_true rfl) dL_print_20 (lP_n hk (by decide))
    · subst hE2
      refine jx_catch cx htb [⟨0, 10, 13, 24⟩, ⟨0, 10, 17, 13⟩] ⟨0, 10, 21, 15⟩ [⟨0, 10, 25, 51⟩] rfl (by decide) (by intro z hz; simp only [List.mem_cons, List.not_mem_nil, or_false] at hz; rcases hz with rfl | rfl; exact ⟨by decide, "java/lang/IndexOutOfBoundsException", by decide +kernel, by decide, by decide⟩; exact ⟨by decide, "java/lang/IllegalArgumentException", by decide +kernel, by decide, by decide⟩) rfl (by decide) (by decide +kernel) (fun q => ?_)
      refine j_astore (lv' := (4, .ref q) :: [(0, .ref (al 0 0)), (1, .int x), (2, .int g), (3, .ref (al 70 0))]) cx dL_print_21 (by decide) rfl (pc' := 23) rfl ?_
      refine j_iconst (v := 3) cx dL_print_23 (by decide) (pc' := 24) rfl ?_
      exact j_iret (ty := .int) cx hlk hr rfl (Nat.le_of_ble_eq_true rfl) (Nat.le_of_ble_eq_true rfl) dL_print_24 (lP_n hk (by decide))
    · subst hE2
      refine jx_catch cx htb [⟨0, 10, 13, 24⟩, ⟨0, 10, 17, 13⟩, ⟨0, 10, 21, 15⟩] ⟨0, 10, 25, 51⟩ [] rfl (by decide) (by intro z hz; simp only [List.mem_cons, List.not_mem_nil, or_false] at hz; rcases hz with rfl | rfl | rfl; exact ⟨by decide, "java/lang/IndexOutOfBoundsException", by decide +kernel, by decide, by decide⟩; exact ⟨by decide, "java/lang/IllegalArgumentException", by decide +kernel, by decide, by decide⟩; exact ⟨by decide, "java/lang/IllegalStateException", by decide +kernel, by decide, by decide⟩) rfl (by decide) (by decide +kernel) (fun q => ?_)
      refine j_astore (lv' := (4, .ref q) :: [(0, .ref (al 0 0)), (1, .int x), (2, .int g), (3, .ref (al 70 0))]) cx dL_print_25 (by decide) rfl (pc' := 27) rfl ?_
      refine j_iconst (v := 4) cx dL_print_27 (by decide) (pc' := 28) rfl ?_
      exact j_iret (ty := .int) cx hlk hr rfl (Nat.le_of_ble_eq_true rfl) (Nat.le_of_ble_eq_true rfl) dL_print_28 (lP_n hk (by decide))
  obtain ⟨hk, e1, e2, e3, e4⟩ := h9
  subst v9 al9 sh9 S9
  refine J.stk (st2 := [.int (S 3 0 (S 20 (mu x.toNatClampNeg) 2).toNatClampNeg + g), .int 0, .ref (al 70 0)]) rfl ?_
  refine j_i2l cx dL_print_8 rfl (pc' := 9) rfl ?_
  refine j_last (jn := 0) cx hO rfl (by unfold vp_in; decide) rfl rfl dL_print_9 (pc' := 10) rfl ?_
  refine j_goto (tgt := 29) cx dL_print_10 (by decide) ?_
  refine j_iconst (v := 0) cx dL_print_29 (by decide) (pc' := 30) rfl ?_
  exact j_iret (ty := .int) cx hlk hr rfl (Nat.le_of_ble_eq_true rfl) (Nat.le_of_ble_eq_true rfl) dL_print_30 (lP_0 hk)
set_option maxHeartbeats 4000000 in
set_option maxRecDepth 100000 in
theorem c_L_state {l : Launch} (hl0 : l.stackTraces = false) {Z : yL} {al : yAl} {sh : ySh} {S : yS} {fo : Nat → Int64} {nm ns : Nat} {mu : Nat → Nat} {x : Int32} (hY : YC Z al sh nm ns mu) (hs11 : S 11 0 2 = nI ns) (hch : ∀ i, i < ns → narrow .char (.int (S 21 i 6)) = .int (S 21 i 6)) (hO : sh 70 0 = some (yLo Z fo)) : Ct l yL_state wsL_state ({ frames := 11, cells := 1, slots := 6, locals := 197 }) 1 6 Z [.ref (al 0 0), .int x, .ref (al 70 0)] al sh S (lP Z al sh (kIdx ns x) fo (qState S x.toNatClampNeg) S S) := by
  refine Ct.ofH (lv := [(0, .ref (al 0 0)), (1, .int x), (2, .ref (al 70 0))]) (by decide) rfl (Nat.le_of_ble_eq_true rfl) rfl ?_
  intro p_ e_ s_ m_ below_ meth_ c_ cx hlk hr htb
  refine j_aload_n (j := 2) cx dL_state_0 rfl rfl (pc' := 1) rfl ?_
  refine j_iconst (v := 0) cx dL_state_1 (by decide) (pc' := 2) rfl ?_
  refine j_aload_n (j := 0) cx dL_state_2 rfl rfl (pc' := 3) rfl ?_
  refine j_iload_n (j := 1) cx dL_state_3 rfl rfl (pc' := 4) rfl ?_
  refine j_cVXP (cells1 := 1) (slots1 := 6) (As := [.int x]) (rest := [.int 0, .ref (al 70 0)]) cx (c_X2_state hl0 hY hs11 hch) gL_state_X2_state rfl rfl rfl 1 rfl (by decide +kernel) ⟨(Nat.le_of_ble_eq_true rfl), (Nat.le_of_ble_eq_true rfl)⟩ hY.1 rfl rfl rfl rfl (Nat.le_of_ble_eq_true rfl) dL_state_4 ⟨(Nat.le_of_ble_eq_true rfl), (Nat.le_of_ble_eq_true rfl)⟩ (pc' := 7) rfl rfl rfl (fun E hE => ?_) (fun v9 al9 sh9 S9 h9 => ?_)
  · obtain ⟨q9, hq, hE2, hk⟩ := hE
    simp only [List.mem_cons, List.not_mem_nil, or_false] at hq
    rcases hq with rfl
    · subst hE2
      refine jx_catch cx htb [] ⟨0, 9, 12, 24⟩ [] rfl (by decide) (fun z hz => by cases hz) rfl (by decide) (by decide +kernel) (fun q => ?_)
      refine j_astore_n (lv' := (3, .ref q) :: [(0, .ref (al 0 0)), (1, .int x), (2, .ref (al 70 0))]) cx dL_state_12 rfl (by decide) rfl (pc' := 13) rfl ?_
      refine j_iconst (v := 1) cx dL_state_13 (by decide) (pc' := 14) rfl ?_
      exact j_iret (ty := .int) cx hlk hr rfl (Nat.le_of_ble_eq_true rfl) (Nat.le_of_ble_eq_true rfl) dL_state_14 (lP_n hk (by decide))
  obtain ⟨hk, e1, e2, e3, e4⟩ := h9
  subst v9 al9 sh9 S9
  refine J.stk (st2 := [.int (qState S x.toNatClampNeg), .int 0, .ref (al 70 0)]) rfl ?_
  refine j_i2l cx dL_state_7 rfl (pc' := 8) rfl ?_
  refine j_last (jn := 0) cx hO rfl (by unfold vp_in; decide) rfl rfl dL_state_8 (pc' := 9) rfl ?_
  refine j_goto (tgt := 15) cx dL_state_9 (by decide) ?_
  refine j_iconst (v := 0) cx dL_state_15 (by decide) (pc' := 16) rfl ?_
  exact j_iret (ty := .int) cx hlk hr rfl (Nat.le_of_ble_eq_true rfl) (Nat.le_of_ble_eq_true rfl) dL_state_16 (lP_0 hk)
set_option maxHeartbeats 4000000 in
set_option maxRecDepth 100000 in
theorem c_L_machineOf {l : Launch} (hl0 : l.stackTraces = false) {Z : yL} {al : yAl} {sh : ySh} {S : yS} {fo : Nat → Int64} {nm ns : Nat} {mu : Nat → Nat} {x : Int32} (hY : YC Z al sh nm ns mu) (hs11 : S 11 0 2 = nI ns) (hO : sh 70 0 = some (yLo Z fo)) : Ct l yL_machineOf wsL_machineOf ({ frames := 11, cells := 1, slots := 6, locals := 196 }) 1 6 Z [.ref (al 0 0), .int x, .ref (al 70 0)] al sh S (lP Z al sh (kIdx ns x) fo (S 20 (mu x.toNatClampNeg) 0) S S) := by
  refine Ct.ofH (lv := [(0, .ref (al 0 0)), (1, .int x), (2, .ref (al 70 0))]) (by decide) rfl (Nat.le_of_ble_eq_true rfl) rfl ?_
  intro p_ e_ s_ m_ below_ meth_ c_ cx hlk hr htb
  refine j_aload_n (j := 2) cx dL_machineOf_0 rfl rfl (pc' := 1) rfl ?_
  refine j_iconst (v := 0) cx dL_machineOf_1 (by decide) (pc' := 2) rfl ?_
  refine j_aload_n (j := 0) cx dL_machineOf_2 rfl rfl (pc' := 3) rfl ?_
  refine j_iload_n (j := 1) cx dL_machineOf_3 rfl rfl (pc' := 4) rfl ?_
  refine j_cVXP (cells1 := 1) (slots1 := 6) (As := [.int x]) (rest := [.int 0, .ref (al 70 0)]) cx (c_X2_machineOf hl0 hY hs11) gL_machineOf_X2_machineOf rfl rfl rfl 1 rfl (by decide +kernel) ⟨(Nat.le_of_ble_eq_true rfl), (Nat.le_of_ble_eq_true rfl)⟩ hY.1 rfl rfl rfl rfl (Nat.le_of_ble_eq_true rfl) dL_machineOf_4 ⟨(Nat.le_of_ble_eq_true rfl), (Nat.le_of_ble_eq_true rfl)⟩ (pc' := 7) rfl rfl rfl (fun E hE => ?_) (fun v9 al9 sh9 S9 h9 => ?_)
  · have hE : yx [(1, xIB)] (kIdx ns x) E := ⟨(1, xIB), by simp, hE.1, by simp [kIdx, nvin hE.2]⟩
    obtain ⟨q9, hq, hE2, hk⟩ := hE
    simp only [List.mem_cons, List.not_mem_nil, or_false] at hq
    rcases hq with rfl
    · subst hE2
      refine jx_catch cx htb [] ⟨0, 9, 12, 24⟩ [] rfl (by decide) (fun z hz => by cases hz) rfl (by decide) (by decide +kernel) (fun q => ?_)
      refine j_astore_n (lv' := (3, .ref q) :: [(0, .ref (al 0 0)), (1, .int x), (2, .ref (al 70 0))]) cx dL_machineOf_12 rfl (by decide) rfl (pc' := 13) rfl ?_
      refine j_iconst (v := 1) cx dL_machineOf_13 (by decide) (pc' := 14) rfl ?_
      exact j_iret (ty := .int) cx hlk hr rfl (Nat.le_of_ble_eq_true rfl) (Nat.le_of_ble_eq_true rfl) dL_machineOf_14 (lP_n hk (by decide))
  obtain ⟨hk, e1, e2, e3, e4⟩ := h9
  subst v9 al9 sh9 S9
  have hk : (kIdx ns x) = 0 := by simp [kIdx, vin hk]
  refine J.stk (st2 := [.int (S 20 (mu x.toNatClampNeg) 0), .int 0, .ref (al 70 0)]) rfl ?_
  refine j_i2l cx dL_machineOf_7 rfl (pc' := 8) rfl ?_
  refine j_last (jn := 0) cx hO rfl (by unfold vp_in; decide) rfl rfl dL_machineOf_8 (pc' := 9) rfl ?_
  refine j_goto (tgt := 15) cx dL_machineOf_9 (by decide) ?_
  refine j_iconst (v := 0) cx dL_machineOf_15 (by decide) (pc' := 16) rfl ?_
  exact j_iret (ty := .int) cx hlk hr rfl (Nat.le_of_ble_eq_true rfl) (Nat.le_of_ble_eq_true rfl) dL_machineOf_16 (lP_0 hk)
set_option maxHeartbeats 4000000 in
set_option maxRecDepth 100000 in
theorem c_L_userOf {l : Launch} (hl0 : l.stackTraces = false) {Z : yL} {al : yAl} {sh : ySh} {S : yS} {fo : Nat → Int64} {nm ns : Nat} {mu : Nat → Nat} {x : Int32} (hY : YC Z al sh nm ns mu) (hs11 : S 11 0 2 = nI ns) (hO : sh 70 0 = some (yLo Z fo)) : Ct l yL_userOf wsL_userOf ({ frames := 11, cells := 1, slots := 6, locals := 196 }) 1 6 Z [.ref (al 0 0), .int x, .ref (al 70 0)] al sh S (lP Z al sh (kIdx ns x) fo (S 21 x.toNatClampNeg 4) S S) := by
  refine Ct.ofH (lv := [(0, .ref (al 0 0)), (1, .int x), (2, .ref (al 70 0))]) (by decide) rfl (Nat.le_of_ble_eq_true rfl) rfl ?_
  intro p_ e_ s_ m_ below_ meth_ c_ cx hlk hr htb
  refine j_aload_n (j := 2) cx dL_userOf_0 rfl rfl (pc' := 1) rfl ?_
  refine j_iconst (v := 0) cx dL_userOf_1 (by decide) (pc' := 2) rfl ?_
  refine j_aload_n (j := 0) cx dL_userOf_2 rfl rfl (pc' := 3) rfl ?_
  refine j_iload_n (j := 1) cx dL_userOf_3 rfl rfl (pc' := 4) rfl ?_
  refine j_cVXP (cells1 := 1) (slots1 := 6) (As := [.int x]) (rest := [.int 0, .ref (al 70 0)]) cx (c_X2_userOf hl0 hY hs11) gL_userOf_X2_userOf rfl rfl rfl 1 rfl (by decide +kernel) ⟨(Nat.le_of_ble_eq_true rfl), (Nat.le_of_ble_eq_true rfl)⟩ hY.1 rfl rfl rfl rfl (Nat.le_of_ble_eq_true rfl) dL_userOf_4 ⟨(Nat.le_of_ble_eq_true rfl), (Nat.le_of_ble_eq_true rfl)⟩ (pc' := 7) rfl rfl rfl (fun E hE => ?_) (fun v9 al9 sh9 S9 h9 => ?_)
  · have hE : yx [(1, xIB)] (kIdx ns x) E := ⟨(1, xIB), by simp, hE.1, by simp [kIdx, nvin hE.2]⟩
    obtain ⟨q9, hq, hE2, hk⟩ := hE
    simp only [List.mem_cons, List.not_mem_nil, or_false] at hq
    rcases hq with rfl
    · subst hE2
      refine jx_catch cx htb [] ⟨0, 9, 12, 24⟩ [] rfl (by decide) (fun z hz => by cases hz) rfl (by decide) (by decide +kernel) (fun q => ?_)
      refine j_astore_n (lv' := (3, .ref q) :: [(0, .ref (al 0 0)), (1, .int x), (2, .ref (al 70 0))]) cx dL_userOf_12 rfl (by decide) rfl (pc' := 13) rfl ?_
      refine j_iconst (v := 1) cx dL_userOf_13 (by decide) (pc' := 14) rfl ?_
      exact j_iret (ty := .int) cx hlk hr rfl (Nat.le_of_ble_eq_true rfl) (Nat.le_of_ble_eq_true rfl) dL_userOf_14 (lP_n hk (by decide))
  obtain ⟨hk, e1, e2, e3, e4⟩ := h9
  subst v9 al9 sh9 S9
  have hk : (kIdx ns x) = 0 := by simp [kIdx, vin hk]
  refine J.stk (st2 := [.int (S 21 x.toNatClampNeg 4), .int 0, .ref (al 70 0)]) rfl ?_
  refine j_i2l cx dL_userOf_7 rfl (pc' := 8) rfl ?_
  refine j_last (jn := 0) cx hO rfl (by unfold vp_in; decide) rfl rfl dL_userOf_8 (pc' := 9) rfl ?_
  refine j_goto (tgt := 15) cx dL_userOf_9 (by decide) ?_
  refine j_iconst (v := 0) cx dL_userOf_15 (by decide) (pc' := 16) rfl ?_
  exact j_iret (ty := .int) cx hlk hr rfl (Nat.le_of_ble_eq_true rfl) (Nat.le_of_ble_eq_true rfl) dL_userOf_16 (lP_0 hk)
set_option maxHeartbeats 4000000 in
set_option maxRecDepth 100000 in
theorem c_L_charged {l : Launch} (hl0 : l.stackTraces = false) {Z : yL} {al : yAl} {sh : ySh} {S : yS} {fo : Nat → Int64} {nm ns : Nat} {mu : Nat → Nat} {x d : Int32} (hY : YC Z al sh nm ns mu) (hs11 : S 11 0 2 = nI ns) (hO : sh 70 0 = some (yLo Z fo)) : Ct l yL_charged wsL_charged ({ frames := 11, cells := 2, slots := 12, locals := 198 }) 2 12 Z [.ref (al 0 0), .int x, .int d, .ref (al 70 0)] al sh S (lP Z al sh (kChg ns x d) fo (S 22 x.toNatClampNeg d.toNatClampNeg) S S) := by
  refine Ct.ofH (lv := [(0, .ref (al 0 0)), (1, .int x), (2, .int d), (3, .ref (al 70 0))]) (by decide) rfl (Nat.le_of_ble_eq_true rfl) rfl ?_
  intro p_ e_ s_ m_ below_ meth_ c_ cx hlk hr htb
  refine j_aload_n (j := 3) cx dL_charged_0 rfl rfl (pc' := 1) rfl ?_
  refine j_iconst (v := 0) cx dL_charged_1 (by decide) (pc' := 2) rfl ?_
  refine j_aload_n (j := 0) cx dL_charged_2 rfl rfl (pc' := 3) rfl ?_
  refine j_iload_n (j := 1) cx dL_charged_3 rfl rfl (pc' := 4) rfl ?_
  refine j_iload_n (j := 2) cx dL_charged_4 rfl rfl (pc' := 5) rfl ?_
  refine j_cVXP (cells1 := 2) (slots1 := 12) (As := [.int x, .int d]) (rest := [.int 0, .ref (al 70 0)]) cx (c_X2_charged hl0 hY hs11) gL_charged_X2_charged rfl rfl rfl 2 rfl (by decide +kernel) ⟨(Nat.le_of_ble_eq_true rfl), (Nat.le_of_ble_eq_true rfl)⟩ hY.1 rfl rfl rfl rfl (Nat.le_of_ble_eq_true rfl) dL_charged_5 ⟨(Nat.le_of_ble_eq_true rfl), (Nat.le_of_ble_eq_true rfl)⟩ (pc' := 8) rfl rfl rfl (fun E hE => ?_) (fun v9 al9 sh9 S9 h9 => ?_)
  · obtain ⟨q9, hq, hE2, hk⟩ := hE
    simp only [List.mem_cons, List.not_mem_nil, or_false] at hq
    rcases hq with rfl | rfl
    · subst hE2
      refine jx_catch cx htb [] ⟨0, 10, 13, 24⟩ [⟨0, 10, 17, 13⟩] rfl (by decide) (fun z hz => by cases hz) rfl (by decide) (by decide +kernel) (fun q => ?_)
      refine j_astore (lv' := (4, .ref q) :: [(0, .ref (al 0 0)), (1, .int x), (2, .int d), (3, .ref (al 70 0))]) cx dL_charged_13 (by decide) rfl (pc' := 15) rfl ?_
      refine j_iconst (v := 1) cx dL_charged_15 (by decide) (pc' := 16) rfl ?_
      exact j_iret (ty := .int) cx hlk hr rfl (Nat.le_of_ble_eq_true rfl) (Nat.le_of_ble_eq_true rfl) dL_charged_16 (lP_n hk (by decide))
    · subst hE2
      refine jx_catch cx htb [⟨0, 10, 13, 24⟩] ⟨0, 10, 17, 13⟩ [] rfl (by decide) (by intro z hz; simp only [List.mem_cons, List.not_mem_nil, or_false] at hz; rcases hz with rfl; exact ⟨by decide, "java/lang/IndexOutOfBoundsException", by decide +kernel, by decide, by decide⟩) rfl (by decide) (by decide +kernel) (fun q => ?_)
      refine j_astore (lv' := (4, .ref q) :: [(0, .ref (al 0 0)), (1, .int x), (2, .int d), (3, .ref (al 70 0))]) cx dL_charged_17 (by decide) rfl (pc' := 19) rfl ?_
      refine j_iconst (v := 2) cx dL_charged_19 (by decide) (pc' := 20) rfl ?_
      exact j_iret (ty := .int) cx hlk hr rfl (Nat.le_of_ble_eq_true rfl) (Nat.le_of_ble_eq_true rfl) dL_charged_20 (lP_n hk (by decide))
  obtain ⟨hk, e1, e2, e3, e4⟩ := h9
  subst v9 al9 sh9 S9
  refine J.stk (st2 := [.int (S 22 x.toNatClampNeg d.toNatClampNeg), .int 0, .ref (al 70 0)]) rfl ?_
  refine j_i2l cx dL_charged_8 rfl (pc' := 9) rfl ?_
  refine j_last (jn := 0) cx hO rfl (by unfold vp_in; decide) rfl rfl dL_charged_9 (pc' := 10) rfl ?_
  refine j_goto (tgt := 21) cx dL_charged_10 (by decide) ?_
  refine j_iconst (v := 0) cx dL_charged_21 (by decide) (pc' := 22) rfl ?_
  exact j_iret (ty := .int) cx hlk hr rfl (Nat.le_of_ble_eq_true rfl) (Nat.le_of_ble_eq_true rfl) dL_charged_22 (lP_0 hk)
set_option maxHeartbeats 4000000 in
set_option maxRecDepth 100000 in
theorem c_L_endsIn {l : Launch} (hl0 : l.stackTraces = false) {Z : yL} {al : yAl} {sh : ySh} {S : yS} {fo : Nat → Int64} {nm ns : Nat} {mu : Nat → Nat} {x : Int32} (hY : YC Z al sh nm ns mu) (hs11 : S 11 0 2 = nI ns) (hps : ∀ i, i < nm → vp_in (S 20 i 1) 3) (hO : sh 70 0 = some (yLo Z fo)) : Ct l yL_endsIn wsL_endsIn ({ frames := 12, cells := 2, slots := 12, locals := 222 }) 2 12 Z [.ref (al 0 0), .int x, .ref (al 70 0)] al sh S (lP Z al sh (kLive ns x (S 21 x.toNatClampNeg 6 = 97)) fo (ymax 1 (ymin (S 21 x.toNatClampNeg 5 + S 1 0 (S 20 (mu x.toNatClampNeg) 1).toNatClampNeg - S 0 0 9) (S 21 x.toNatClampNeg 2 + S 2 0 (S 20 (mu x.toNatClampNeg) 1).toNatClampNeg - S 0 0 9))) S S) := by
  refine Ct.ofH (lv := [(0, .ref (al 0 0)), (1, .int x), (2, .ref (al 70 0))]) (by decide) rfl (Nat.le_of_ble_eq_true rfl) rfl ?_
  intro p_ e_ s_ m_ below_ meth_ c_ cx hlk hr htb
  refine j_aload_n (j := 2) cx dL_endsIn_0 rfl rfl (pc' := 1) rfl ?_
  refine j_iconst (v := 0) cx dL_endsIn_1 (by decide) (pc' := 2) rfl ?_
  refine j_aload_n (j := 0) cx dL_endsIn_2 rfl rfl (pc' := 3) rfl ?_
  refine j_iload_n (j := 1) cx dL_endsIn_3 rfl rfl (pc' := 4) rfl ?_
  refine j_cVXP (cells1 := 2) (slots1 := 12) (As := [.int x]) (rest := [.int 0, .ref (al 70 0)]) cx (c_X2_endsIn hl0 hY hs11 hps) gL_endsIn_X2_endsIn rfl rfl rfl 1 rfl (by decide +kernel) ⟨(Nat.le_of_ble_eq_true rfl), (Nat.le_of_ble_eq_true rfl)⟩ hY.1 rfl rfl rfl rfl (Nat.le_of_ble_eq_true rfl) dL_endsIn_4 ⟨(Nat.le_of_ble_eq_true rfl), (Nat.le_of_ble_eq_true rfl)⟩ (pc' := 7) rfl rfl rfl (fun E hE => ?_) (fun v9 al9 sh9 S9 h9 => ?_)
  · obtain ⟨q9, hq, hE2, hk⟩ := hE
    simp only [List.mem_cons, List.not_mem_nil, or_false] at hq
    rcases hq with rfl | rfl
    · subst hE2
      refine jx_catch cx htb [] ⟨0, 9, 12, 24⟩ [⟨0, 9, 15, 15⟩] rfl (by decide) (fun z hz => by cases hz) rfl (by decide) (by decide +kernel) (fun q => ?_)
      refine j_astore_n (lv' := (3, .ref q) :: [(0, .ref (al 0 0)), (1, .int x), (2, .ref (al 70 0))]) cx dL_endsIn_12 rfl (by decide) rfl (pc' := 13) rfl ?_
      refine j_iconst (v := 1) cx dL_endsIn_13 (by decide) (pc' := 14) rfl ?_
      exact j_iret (ty := .int) cx hlk hr rfl (Nat.le_of_ble_eq_true rfl) (Nat.le_of_ble_eq_true rfl) dL_endsIn_14 (lP_n hk (by decide))
    · subst hE2
      refine jx_catch cx htb [⟨0, 9, 12, 24⟩] ⟨0, 9, 15, 15⟩ [] rfl (by decide) (by intro z hz; simp only [List.mem_cons, List.not_mem_nil, or_false] at hz; rcases hz with rfl; exact ⟨by decide, "java/lang/IndexOutOfBoundsException", by decide +kernel, by decide, by decide⟩) rfl (by decide) (by decide +kernel) (fun q => ?_)
      refine j_astore_n (lv' := (3, .ref q) :: [(0, .ref (al 0 0)), (1, .int x), (2, .ref (al 70 0))]) cx dL_endsIn_15 rfl (by decide) rfl (pc' := 16) rfl ?_
      refine j_iconst (v := 2) cx dL_endsIn_16 (by decide) (pc' := 17) rfl ?_
      exact j_iret (ty := .int) cx hlk hr rfl (Nat.le_of_ble_eq_true rfl) (Nat.le_of_ble_eq_true rfl) dL_endsIn_17 (lP_n hk (by decide))
  obtain ⟨hk, e1, e2, e3, e4⟩ := h9
  subst v9 al9 sh9 S9
  refine J.stk (st2 := [.int (ymax 1 (ymin (S 21 x.toNatClampNeg 5 + S 1 0 (S 20 (mu x.toNatClampNeg) 1).toNatClampNeg - S 0 0 9) (S 21 x.toNatClampNeg 2 + S 2 0 (S 20 (mu x.toNatClampNeg) 1).toNatClampNeg - S 0 0 9))), .int 0, .ref (al 70 0)]) rfl ?_
  refine j_i2l cx dL_endsIn_7 rfl (pc' := 8) rfl ?_
  refine j_last (jn := 0) cx hO rfl (by unfold vp_in; decide) rfl rfl dL_endsIn_8 (pc' := 9) rfl ?_
  refine j_goto (tgt := 18) cx dL_endsIn_9 (by decide) ?_
  refine j_iconst (v := 0) cx dL_endsIn_18 (by decide) (pc' := 19) rfl ?_
  exact j_iret (ty := .int) cx hlk hr rfl (Nat.le_of_ble_eq_true rfl) (Nat.le_of_ble_eq_true rfl) dL_endsIn_19 (lP_0 hk)
set_option maxHeartbeats 4000000 in
set_option maxRecDepth 100000 in
theorem c_L_pass {l : Launch} (hl0 : l.stackTraces = false) {Z : yL} {al : yAl} {sh : ySh} {S : yS} {fo : Nat → Int64} {nm ns : Nat} {mu : Nat → Nat} {x : Int32} (hY : YC Z al sh nm ns mu) (hci : CI S nm ns) (hO : sh 70 0 = some (yLo Z fo)) : Ct l yL_pass wsL_pass ({ frames := 11, cells := 1, slots := 6, locals := 201 }) 1 6 Z [.ref (al 0 0), .int x, .ref (al 70 0)] al sh S (lP Z al sh (kPass x (S 0 0 9)) fo (lEnd mu ns S 0 x.toNatClampNeg) (lPass mu ns S x.toNatClampNeg) S) := by
  refine Ct.ofH (lv := [(0, .ref (al 0 0)), (1, .int x), (2, .ref (al 70 0))]) (by decide) rfl (Nat.le_of_ble_eq_true rfl) rfl ?_
  intro p_ e_ s_ m_ below_ meth_ c_ cx hlk hr htb
  refine j_aload_n (j := 2) cx dL_pass_0 rfl rfl (pc' := 1) rfl ?_
  refine j_iconst (v := 0) cx dL_pass_1 (by decide) (pc' := 2) rfl ?_
  refine j_aload_n (j := 0) cx dL_pass_2 rfl rfl (pc' := 3) rfl ?_
  refine j_iload_n (j := 1) cx dL_pass_3 rfl rfl (pc' := 4) rfl ?_
  refine j_cVXP (cells1 := 1) (slots1 := 6) (As := [.int x]) (rest := [.int 0, .ref (al 70 0)]) cx (c_X2_pass hl0 hY hci) gL_pass_X2_pass rfl rfl rfl 1 rfl (by decide +kernel) ⟨(Nat.le_of_ble_eq_true rfl), (Nat.le_of_ble_eq_true rfl)⟩ hY.1 rfl rfl rfl rfl (Nat.le_of_ble_eq_true rfl) dL_pass_4 ⟨(Nat.le_of_ble_eq_true rfl), (Nat.le_of_ble_eq_true rfl)⟩ (pc' := 7) rfl rfl rfl (fun E hE => ?_) (fun v9 al9 sh9 S9 h9 => ?_)
  · obtain ⟨q9, hq, hE2, hk⟩ := hE
    simp only [List.mem_cons, List.not_mem_nil, or_false] at hq
    rcases hq with rfl
    · subst hE2
      refine jx_catch cx htb [] ⟨0, 9, 12, 13⟩ [] rfl (by decide) (fun z hz => by cases hz) rfl (by decide) (by decide +kernel) (fun q => ?_)
      refine j_astore_n (lv' := (3, .ref q) :: [(0, .ref (al 0 0)), (1, .int x), (2, .ref (al 70 0))]) cx dL_pass_12 rfl (by decide) rfl (pc' := 13) rfl ?_
      refine j_iconst (v := 1) cx dL_pass_13 (by decide) (pc' := 14) rfl ?_
      exact j_iret (ty := .int) cx hlk hr rfl (Nat.le_of_ble_eq_true rfl) (Nat.le_of_ble_eq_true rfl) dL_pass_14 (lP_n hk (by decide))
  obtain ⟨hk, e1, e2, e3, e4⟩ := h9
  subst v9 al9 sh9 S9
  refine J.stk (st2 := [.int (lEnd mu ns S 0 x.toNatClampNeg), .int 0, .ref (al 70 0)]) rfl ?_
  refine j_i2l cx dL_pass_7 rfl (pc' := 8) rfl ?_
  refine j_last (jn := 0) cx hO rfl (by unfold vp_in; decide) rfl rfl dL_pass_8 (pc' := 9) rfl ?_
  refine j_goto (tgt := 15) cx dL_pass_9 (by decide) ?_
  refine j_iconst (v := 0) cx dL_pass_15 (by decide) (pc' := 16) rfl ?_
  exact j_iret (ty := .int) cx hlk hr rfl (Nat.le_of_ble_eq_true rfl) (Nat.le_of_ble_eq_true rfl) dL_pass_16 (lP_0 hk)
set_option maxHeartbeats 4000000 in
set_option maxRecDepth 100000 in
theorem c_L_pageShare {l : Launch} (hl0 : l.stackTraces = false) {Z : yL} {al : yAl} {sh : ySh} {S : yS} {fo : Nat → UInt64} {nm ns : Nat} {mu : Nat → Nat}  (hY : YC Z al sh nm ns mu) (hs11 : S 11 0 2 = nI ns) (hO : sh 71 0 = some (yDo Z fo)) : Ct l yL_pageShare wsL_pageShare ({ frames := 11, cells := 1, slots := 6, locals := 197 }) 1 6 Z [.ref (al 0 0), .ref (al 71 0)] al sh S (lD Z al sh (kAll (lSum S 0 0 ns)) fo (FP.f2d (FP.fdiv (FP.i2f (S 0 0 10)) (FP.i2f (lSum S 0 0 ns)))) S) := by
  refine Ct.ofH (lv := [(0, .ref (al 0 0)), (1, .ref (al 71 0))]) (by decide) rfl (Nat.le_of_ble_eq_true rfl) rfl ?_
  intro p_ e_ s_ m_ below_ meth_ c_ cx hlk hr htb
  refine j_aload_n (j := 1) cx dL_pageShare_0 rfl rfl (pc' := 1) rfl ?_
  refine j_iconst (v := 0) cx dL_pageShare_1 (by decide) (pc' := 2) rfl ?_
  refine j_aload_n (j := 0) cx dL_pageShare_2 rfl rfl (pc' := 3) rfl ?_
  refine j_cVXP (cells1 := 1) (slots1 := 6) (As := []) (rest := [.int 0, .ref (al 71 0)]) cx (c_X2_pageShare hl0 hY hs11) gL_pageShare_X2_pageShare rfl rfl rfl 0 rfl (by decide +kernel) ⟨(Nat.le_of_ble_eq_true rfl), (Nat.le_of_ble_eq_true rfl)⟩ hY.1 rfl rfl rfl rfl (Nat.le_of_ble_eq_true rfl) dL_pageShare_3 ⟨(Nat.le_of_ble_eq_true rfl), (Nat.le_of_ble_eq_true rfl)⟩ (pc' := 6) rfl rfl rfl (fun E hE => ?_) (fun v9 al9 sh9 S9 h9 => ?_)
  · obtain ⟨q9, hq, hE2, hk⟩ := hE
    simp only [List.mem_cons, List.not_mem_nil, or_false] at hq
    rcases hq with rfl
    · subst hE2
      refine jx_catch cx htb [] ⟨0, 8, 11, 102⟩ [] rfl (by decide) (fun z hz => by cases hz) rfl (by decide) (by decide +kernel) (fun q => ?_)
      refine j_astore_n (lv' := (2, .ref q) :: [(0, .ref (al 0 0)), (1, .ref (al 71 0))]) cx dL_pageShare_11 rfl (by decide) rfl (pc' := 12) rfl ?_
      refine j_iconst (v := 1) cx dL_pageShare_12 (by decide) (pc' := 13) rfl ?_
      exact j_iret (ty := .int) cx hlk hr rfl (Nat.le_of_ble_eq_true rfl) (Nat.le_of_ble_eq_true rfl) dL_pageShare_13 (lD_n hk (by decide))
  obtain ⟨hk, e1, e2, e3, e4⟩ := h9
  subst v9 al9 sh9 S9
  refine J.stk (st2 := [.float (FP.fdiv (FP.i2f (S 0 0 10)) (FP.i2f (lSum S 0 0 ns))), .int 0, .ref (al 71 0)]) rfl ?_
  refine j_f2d cx dL_pageShare_6 (fd_n (fq_mag _ (kAll_ne hk))) (pc' := 7) rfl ?_
  refine j_dast (jn := 0) cx hO rfl (by unfold vp_in; decide) rfl rfl dL_pageShare_7 (pc' := 8) rfl ?_
  refine j_goto (tgt := 14) cx dL_pageShare_8 (by decide) ?_
  refine j_iconst (v := 0) cx dL_pageShare_14 (by decide) (pc' := 15) rfl ?_
  exact j_iret (ty := .int) cx hlk hr rfl (Nat.le_of_ble_eq_true rfl) (Nat.le_of_ble_eq_true rfl) dL_pageShare_15 (lD_0 hk)
set_option maxHeartbeats 4000000 in
set_option maxRecDepth 100000 in
theorem c_L_meanCharge {l : Launch} (hl0 : l.stackTraces = false) {Z : yL} {al : yAl} {sh : ySh} {S : yS} {fo : Nat → UInt64} {nm ns : Nat} {mu : Nat → Nat}  (hY : YC Z al sh nm ns mu) (hs11 : S 11 0 2 = nI ns) (hO : sh 71 0 = some (yDo Z fo)) : Ct l yL_meanCharge wsL_meanCharge ({ frames := 11, cells := 1, slots := 6, locals := 197 }) 1 6 Z [.ref (al 0 0), .ref (al 71 0)] al sh S (lD Z al sh (kAll (nI ns)) fo (FP.ddiv (FP.i2d (lSum S 0 0 ns)) (FP.i2d (nI ns))) S) := by
  refine Ct.ofH (lv := [(0, .ref (al 0 0)), (1, .ref (al 71 0))]) (by decide) rfl (Nat.le_of_ble_eq_true rfl) rfl ?_
  intro p_ e_ s_ m_ below_ meth_ c_ cx hlk hr htb
  refine j_aload_n (j := 1) cx dL_meanCharge_0 rfl rfl (pc' := 1) rfl ?_
  refine j_iconst (v := 0) cx dL_meanCharge_1 (by decide) (pc' := 2) rfl ?_
  refine j_aload_n (j := 0) cx dL_meanCharge_2 rfl rfl (pc' := 3) rfl ?_
  refine j_cVXP (cells1 := 1) (slots1 := 6) (As := []) (rest := [.int 0, .ref (al 71 0)]) cx (c_X2_meanCharge hl0 hY hs11) gL_meanCharge_X2_meanCharge rfl rfl rfl 0 rfl (by decide +kernel) ⟨(Nat.le_of_ble_eq_true rfl), (Nat.le_of_ble_eq_true rfl)⟩ hY.1 rfl rfl rfl rfl (Nat.le_of_ble_eq_true rfl) dL_meanCharge_3 ⟨(Nat.le_of_ble_eq_true rfl), (Nat.le_of_ble_eq_true rfl)⟩ (pc' := 6) rfl rfl rfl (fun E hE => ?_) (fun v9 al9 sh9 S9 h9 => ?_)
  · obtain ⟨q9, hq, hE2, hk⟩ := hE
    simp only [List.mem_cons, List.not_mem_nil, or_false] at hq
    rcases hq with rfl
    · subst hE2
      refine jx_catch cx htb [] ⟨0, 7, 10, 102⟩ [] rfl (by decide) (fun z hz => by cases hz) rfl (by decide) (by decide +kernel) (fun q => ?_)
      refine j_astore_n (lv' := (2, .ref q) :: [(0, .ref (al 0 0)), (1, .ref (al 71 0))]) cx dL_meanCharge_10 rfl (by decide) rfl (pc' := 11) rfl ?_
      refine j_iconst (v := 1) cx dL_meanCharge_11 (by decide) (pc' := 12) rfl ?_
      exact j_iret (ty := .int) cx hlk hr rfl (Nat.le_of_ble_eq_true rfl) (Nat.le_of_ble_eq_true rfl) dL_meanCharge_12 (lD_n hk (by decide))
  obtain ⟨hk, e1, e2, e3, e4⟩ := h9
  subst v9 al9 sh9 S9
  refine J.stk (st2 := [.double (FP.ddiv (FP.i2d (lSum S 0 0 ns)) (FP.i2d (nI ns))), .int 0, .ref (al 71 0)]) rfl ?_
  refine j_dast (jn := 0) cx hO rfl (by unfold vp_in; decide) rfl rfl dL_meanCharge_6 (pc' := 7) rfl ?_
  refine j_goto (tgt := 13) cx dL_meanCharge_7 (by decide) ?_
  refine j_iconst (v := 0) cx dL_meanCharge_13 (by decide) (pc' := 14) rfl ?_
  exact j_iret (ty := .int) cx hlk hr rfl (Nat.le_of_ble_eq_true rfl) (Nat.le_of_ble_eq_true rfl) dL_meanCharge_14 (lD_0 hk)
