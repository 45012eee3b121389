theorem out_in {n j : Nat} (hj : j < n) (hn : n ≤ 1000) : ¬ oR 0 (nI n - 1) (nI j) := by
  have h1 : (nI n - nI 1).toInt = (n : Int) - 1 := pk_sub_toInt (by omega) (by omega)
  have h2 : nI n - 1 = nI n - nI 1 := rfl
  rintro (h | h)
  · exact nI_pos (by omega) h
  · rw [Int32.lt_iff_toInt_lt, h2, h1, nI_toInt (by omega)] at h
    omega
theorem in_out {n : Nat} {x : Int32} (h : ¬ vp_in x n) (hn : n ≤ 1000) : oR 0 (nI n - 1) x := by
  have h1 : (nI n - nI 1).toInt = (n : Int) - 1 := pk_sub_toInt (by omega) (by omega)
  have h2 : nI n - 1 = nI n - nI 1 := rfl
  rw [vp_in_iff] at h
  unfold oR
  rw [Int32.lt_iff_toInt_lt, Int32.lt_iff_toInt_lt, h2, h1, show (0 : Int32).toInt = 0 by decide]
  omega

set_option maxHeartbeats 4000000 in
set_option maxRecDepth 100000 in
theorem c_X2_sessionAt {l : Launch} (hl0 : l.stackTraces = false) {Z : yL} {al : yAl} {sh : ySh} {S : yS} {nm ns : Nat} {mu : Nat → Nat} {x : Int32} (hY : YC Z al sh nm ns mu) (hs11 : S 11 0 2 = nI ns) : Cq l yX2_sessionAt wsX2_sessionAt ({ frames := 6, cells := 1, slots := 6, locals := 90 }) 1 6 Z [.ref (al 0 0), .int x] al sh S (yRp (vp_in x ns) al sh (some (.ref (al 21 x.toNatClampNeg))) S) (fun E => E = xIB ∧ ¬ vp_in x ns) := by
  obtain ⟨tg11, ht11⟩ := YL.obj hY.2.2.2.2.2.2.2.2.2.2.1
  refine Cq.of (lv := [(0, .ref (al 0 0)), (1, .int x)]) (by decide) rfl (Nat.le_of_ble_eq_true rfl) rfl ?_
  intro p_ e_ s_ m_ below_ meth_ c_ cx hlk hr htb
  have hle : ns ≤ 1000 := Nat.le_trans hY.2.2.2.2.2.2.2.2.2.2.2.2.2.2.2.2.2 (by decide)
  by_cases hx : vp_in x ns
  · obtain ⟨j, hj, rfl⟩ := vp_in_of hx (by omega)
    refine j_iload_n (j := 1) cx dX2_sessionAt_0 rfl rfl (pc' := 1) rfl ?_
    refine j_iconst (v := 0) cx dX2_sessionAt_1 (by decide) (pc' := 2) rfl ?_
    refine j_aload_n (j := 0) cx dX2_sessionAt_2 rfl rfl (pc' := 3) rfl ?_
    refine j_get (fk := 8) (ref := "TerminalYard") (v := .ref (al 11 0)) cx hY.1 rfl (by decide +kernel) (by decide) (by decide +kernel) (fun _ h => h) (yV_r (k := (11, 0)) rfl) rfl dX2_sessionAt_3 (pc' := 6) rfl ?_
    refine j_cVR (cells1 := 0) (slots1 := 0) (st1 := [.int (nI ns), .int 0, .int (nI j)]) (As := []) (rest := [.int 0, .int (nI j)]) cx (YL.size hY.2.2.2.2.2.2.2.2.2.2.1 hs11) gX2_sessionAt_Jx4a65c_size_8abf5 rfl rfl rfl 0 rfl (by decide +kernel) ⟨Nat.le_of_ble_eq_true rfl, Nat.le_of_ble_eq_true rfl⟩ ht11 rfl rfl rfl rfl (Nat.le_of_ble_eq_true rfl) dX2_sessionAt_6 ⟨Nat.le_of_ble_eq_true rfl, Nat.le_of_ble_eq_true rfl⟩ (pc' := 9) rfl rfl rfl rfl ?_
    refine j_iconst (v := 1) cx dX2_sessionAt_9 (by decide) (pc' := 10) rfl ?_
    refine j_isub cx dX2_sessionAt_10 (pc' := 11) rfl ?_
    refine j_cSR (cells1 := 0) (slots1 := 0) (st1 := [.int (bI (oR 0 ((nI ns) - 1) (nI j)))]) (As := [.int (nI j), .int 0, .int ((nI ns) - 1)]) (rest := []) cx (c_X2_isOutside) gX2_sessionAt_X2_isOutside rfl rfl rfl 3 rfl (by decide +kernel) ⟨Nat.le_of_ble_eq_true rfl, Nat.le_of_ble_eq_true rfl⟩ rfl (Nat.le_of_ble_eq_true rfl) dX2_sessionAt_11 ⟨Nat.le_of_ble_eq_true rfl, Nat.le_of_ble_eq_true rfl⟩ (pc' := 14) rfl rfl rfl rfl ?_
    refine j_ifb_eq (tgt := 28) cx dX2_sessionAt_14 (by decide) (pc' := 17) rfl (fun _ => ?_) (fun h => by first | exact absurd h (out_in hj hle) | exact absurd (out_in hj hle) h)
    refine j_aload_n (j := 0) cx dX2_sessionAt_28 rfl rfl (pc' := 29) rfl ?_
    refine j_get (fk := 8) (ref := "TerminalYard") (v := .ref (al 11 0)) cx hY.1 rfl (by decide +kernel) (by decide) (by decide +kernel) (fun _ h => h) (yV_r (k := (11, 0)) rfl) rfl dX2_sessionAt_29 (pc' := 32) rfl ?_
    refine j_iload_n (j := 1) cx dX2_sessionAt_32 rfl rfl (pc' := 33) rfl ?_
    refine j_cVR (cells1 := 0) (slots1 := 0) (st1 := [.ref (al 21 j)]) (As := [.int (nI j)]) (rest := []) cx (YL.get hY.2.2.2.2.2.2.2.2.2.2.1 hs11 hj) gX2_sessionAt_Jx4a65c_get_915e3 rfl rfl rfl 1 rfl (by decide +kernel) ⟨Nat.le_of_ble_eq_true rfl, Nat.le_of_ble_eq_true rfl⟩ ht11 rfl rfl rfl rfl (Nat.le_of_ble_eq_true rfl) dX2_sessionAt_33 ⟨Nat.le_of_ble_eq_true rfl, Nat.le_of_ble_eq_true rfl⟩ (pc' := 36) rfl rfl rfl rfl ?_
    refine j_castS cx (hY.2.2.2.2.2.2.2.2.2.2.2.2.1 _ hj) rfl (by decide +kernel) rfl dX2_sessionAt_36 (pc' := 39) rfl ?_
    exact J.ret _ (j_aret cx hlk hr (Or.inl ⟨_, rfl⟩) (Nat.le_of_ble_eq_true rfl) (Nat.le_of_ble_eq_true rfl) dX2_sessionAt_39 ⟨hx, by rw [nI_clamp (by omega)], rfl, rfl, rfl⟩)
  · skip
    refine j_iload_n (j := 1) cx dX2_sessionAt_0 rfl rfl (pc' := 1) rfl ?_
    refine j_iconst (v := 0) cx dX2_sessionAt_1 (by decide) (pc' := 2) rfl ?_
    refine j_aload_n (j := 0) cx dX2_sessionAt_2 rfl rfl (pc' := 3) rfl ?_
    refine j_get (fk := 8) (ref := "TerminalYard") (v := .ref (al 11 0)) cx hY.1 rfl (by decide +kernel) (by decide) (by decide +kernel) (fun _ h => h) (yV_r (k := (11, 0)) rfl) rfl dX2_sessionAt_3 (pc' := 6) rfl ?_
    refine j_cVR (cells1 := 0) (slots1 := 0) (st1 := [.int (nI ns), .int 0, .int x]) (As := []) (rest := [.int 0, .int x]) cx (YL.size hY.2.2.2.2.2.2.2.2.2.2.1 hs11) gX2_sessionAt_Jx4a65c_size_8abf5 rfl rfl rfl 0 rfl (by decide +kernel) ⟨Nat.le_of_ble_eq_true rfl, Nat.le_of_ble_eq_true rfl⟩ ht11 rfl rfl rfl rfl (Nat.le_of_ble_eq_true rfl) dX2_sessionAt_6 ⟨Nat.le_of_ble_eq_true rfl, Nat.le_of_ble_eq_true rfl⟩ (pc' := 9) rfl rfl rfl rfl ?_
    refine j_iconst (v := 1) cx dX2_sessionAt_9 (by decide) (pc' := 10) rfl ?_
    refine j_isub cx dX2_sessionAt_10 (pc' := 11) rfl ?_
    refine j_cSR (cells1 := 0) (slots1 := 0) (st1 := [.int (bI (oR 0 ((nI ns) - 1) x))]) (As := [.int x, .int 0, .int ((nI ns) - 1)]) (rest := []) cx (c_X2_isOutside) gX2_sessionAt_X2_isOutside rfl rfl rfl 3 rfl (by decide +kernel) ⟨Nat.le_of_ble_eq_true rfl, Nat.le_of_ble_eq_true rfl⟩ rfl (Nat.le_of_ble_eq_true rfl) dX2_sessionAt_11 ⟨Nat.le_of_ble_eq_true rfl, Nat.le_of_ble_eq_true rfl⟩ (pc' := 14) rfl rfl rfl rfl ?_
    refine j_ifb_eq (tgt := 28) cx dX2_sessionAt_14 (by decide) (pc' := 17) rfl (fun h => by first | exact absurd h (in_out hx hle) | exact absurd (in_out hx hle) h) (fun _ => ?_)
    exact j_throwSW (ik := 264) (ic := 268) (is := 269) (cls := "java/lang/IndexOutOfBoundsException") (text := "no such session") (names := ["java/lang/RuntimeException", "java/lang/Exception"]) cx hl0 hlk htb rfl (by decide) (by decide) (by decide) (by decide +kernel) (by decide +kernel) (by decide +kernel) (by decide +kernel) (by decide +kernel) dX2_sessionAt_17 dX2_sessionAt_20 dX2_sessionAt_21 dX2_sessionAt_24 dX2_sessionAt_27 (Nat.le_of_ble_eq_true rfl) (Nat.le_of_ble_eq_true rfl) (Nat.le_of_ble_eq_true rfl) (Nat.le_of_ble_eq_true rfl) (Nat.le_of_ble_eq_true rfl) (Nat.le_of_ble_eq_true rfl) ⟨rfl, hx⟩
set_option maxHeartbeats 4000000 in
set_option maxRecDepth 100000 in
theorem c_X2_liveSessionAt {l : Launch} (hl0 : l.stackTraces = false) {Z : yL} {al : yAl} {sh : ySh} {S : yS} {nm ns : Nat} {mu : Nat → Nat} {x : Int32} (hY : YC Z al sh nm ns mu) (hs11 : S 11 0 2 = nI ns) : Cq l yX2_liveSessionAt wsX2_liveSessionAt ({ frames := 7, cells := 2, slots := 12, locals := 111 }) 2 12 Z [.ref (al 0 0), .int x] al sh S (yRp (vp_in x ns ∧ S 21 x.toNatClampNeg 6 = 97) al sh (some (.ref (al 21 x.toNatClampNeg))) S) (fun E => (E = xIB ∧ ¬ vp_in x ns) ∨ (E = xIS ∧ vp_in x ns ∧ ¬ S 21 x.toNatClampNeg 6 = 97)) := by
  refine Cq.of (lv := [(0, .ref (al 0 0)), (1, .int x)]) (by decide) rfl (Nat.le_of_ble_eq_true rfl) rfl ?_
  intro p_ e_ s_ m_ below_ meth_ c_ cx hlk hr htb
  refine j_aload_n (j := 0) cx dX2_liveSessionAt_0 rfl rfl (pc' := 1) rfl ?_
  refine j_iload_n (j := 1) cx dX2_liveSessionAt_1 rfl rfl (pc' := 2) rfl ?_
  refine j_cVX (cells1 := 1) (slots1 := 6) (st1 := [.ref (al 21 x.toNatClampNeg)]) (As := [.int x]) (rest := []) cx (c_X2_sessionAt hl0 hY hs11) gX2_liveSessionAt_X2_sessionAt rfl rfl rfl 1 rfl (by decide +kernel) ⟨Nat.le_of_ble_eq_true rfl, Nat.le_of_ble_eq_true rfl⟩ hY.1 rfl rfl rfl rfl (Nat.le_of_ble_eq_true rfl) dX2_liveSessionAt_2 ⟨Nat.le_of_ble_eq_true rfl, Nat.le_of_ble_eq_true rfl⟩ (pc' := 5) rfl rfl rfl rfl (fun E hE => jx_out hlk htb (Nat.le_of_ble_eq_true rfl) (Nat.le_of_ble_eq_true rfl) (Or.inl hE)) (fun p1 => ?_)
  refine j_astore_n (lv' := [(2, .ref (al 21 x.toNatClampNeg)), (0, .ref (al 0 0)), (1, .int x)]) cx dX2_liveSessionAt_5 rfl (by decide) rfl (pc' := 6) rfl ?_
  refine j_aload_n (j := 0) cx dX2_liveSessionAt_6 rfl rfl (pc' := 7) rfl ?_
  refine j_cSX (cells1 := 2) (slots1 := 12) (st1 := []) (As := [.ref (al 21 x.toNatClampNeg)]) (rest := []) cx (c_X2_checkLive hl0 (hY.2.2.2.2.2.2.2.2.2.2.2.2.1 _ (ix_of p1))) gX2_liveSessionAt_X2_checkLive rfl rfl rfl 1 rfl (by decide +kernel) ⟨Nat.le_of_ble_eq_true rfl, Nat.le_of_ble_eq_true rfl⟩ rfl (Nat.le_of_ble_eq_true rfl) dX2_liveSessionAt_7 ⟨Nat.le_of_ble_eq_true rfl, Nat.le_of_ble_eq_true rfl⟩ (pc' := 10) rfl rfl rfl rfl (fun E hE => jx_out hlk htb (Nat.le_of_ble_eq_true rfl) (Nat.le_of_ble_eq_true rfl) (Or.inr ⟨hE.1, p1, hE.2⟩)) (fun p2 => ?_)
  refine j_aload_n (j := 0) cx dX2_liveSessionAt_10 rfl rfl (pc' := 11) rfl ?_
  exact J.ret _ (j_aret cx hlk hr (Or.inl ⟨_, rfl⟩) (Nat.le_of_ble_eq_true rfl) (Nat.le_of_ble_eq_true rfl) dX2_liveSessionAt_11 ⟨⟨p1, p2⟩, rfl, rfl, rfl, rfl⟩)
set_option maxHeartbeats 4000000 in
set_option maxRecDepth 100000 in
theorem c_X2_userOf {l : Launch} (hl0 : l.stackTraces = false) {Z : yL} {al : yAl} {sh : ySh} {S : yS} {nm ns : Nat} {mu : Nat → Nat} {x : Int32} (hY : YC Z al sh nm ns mu) (hs11 : S 11 0 2 = nI ns) : Cq l yX2_userOf wsX2_userOf ({ frames := 7, cells := 1, slots := 6, locals := 111 }) 1 6 Z [.ref (al 0 0), .int x] al sh S (yRp (vp_in x ns) al sh (some (.int (S 21 x.toNatClampNeg 4))) S) (fun E => E = xIB ∧ ¬ vp_in x ns) := by
  refine Cq.of (lv := [(0, .ref (al 0 0)), (1, .int x)]) (by decide) rfl (Nat.le_of_ble_eq_true rfl) rfl ?_
  intro p_ e_ s_ m_ below_ meth_ c_ cx hlk hr htb
  refine j_aload_n (j := 0) cx dX2_userOf_0 rfl rfl (pc' := 1) rfl ?_
  refine j_iload_n (j := 1) cx dX2_userOf_1 rfl rfl (pc' := 2) rfl ?_
  refine j_cVX (cells1 := 1) (slots1 := 6) (st1 := [.ref (al 21 x.toNatClampNeg)]) (As := [.int x]) (rest := []) cx (c_X2_sessionAt hl0 hY hs11) gX2_userOf_X2_sessionAt rfl rfl rfl 1 rfl (by decide +kernel) ⟨Nat.le_of_ble_eq_true rfl, Nat.le_of_ble_eq_true rfl⟩ hY.1 rfl rfl rfl rfl (Nat.le_of_ble_eq_true rfl) dX2_userOf_2 ⟨Nat.le_of_ble_eq_true rfl, Nat.le_of_ble_eq_true rfl⟩ (pc' := 5) rfl rfl rfl rfl (fun E hE => jx_out hlk htb (Nat.le_of_ble_eq_true rfl) (Nat.le_of_ble_eq_true rfl) hE) (fun p1 => ?_)
  refine j_get (fk := 4) (ref := "TerminalYard$Session") (v := .int (S 21 x.toNatClampNeg 4)) cx (hY.2.2.2.2.2.2.2.2.2.2.2.2.1 _ (ix_of p1)) rfl (by decide +kernel) (by decide) (by decide +kernel) (fun _ h => h) (yV_i rfl) rfl dX2_userOf_5 (pc' := 8) rfl ?_
  exact J.ret _ (j_iret (ty := .int) cx hlk hr rfl (Nat.le_of_ble_eq_true rfl) (Nat.le_of_ble_eq_true rfl) dX2_userOf_8 ⟨p1, rfl, rfl, rfl, rfl⟩)
