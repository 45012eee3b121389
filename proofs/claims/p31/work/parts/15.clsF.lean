set_option maxHeartbeats 4000000 in
set_option maxRecDepth 100000 in
theorem c_X2_free {l : Launch} (hl0 : l.stackTraces = false) {Z : yL} {al : yAl} {sh : ySh} {S : yS} {nm ns : Nat} {mu : Nat → Nat} {x : Int32} (hY : YC Z al sh nm ns mu) (hs9 : S 9 0 2 = nI nm) : Cq l yX2_free wsX2_free ({ frames := 7, cells := 1, slots := 6, locals := 110 }) 1 6 Z [.ref (al 0 0), .int x] al sh S (yRp (kPool x = 0) al sh (some (.int (lFree S x 0 0 nm))) S) (yx [(1, xIA)] (kPool x)) := by
  obtain ⟨tg9, ht9⟩ := YL.obj hY.2.2.2.2.2.2.2.2.2.1
  refine Cq.of (lv := [(0, .ref (al 0 0)), (1, .int x)]) (by decide) rfl (Nat.le_of_ble_eq_true rfl) rfl ?_
  intro p_ e_ s_ m_ below_ meth_ c_ cx hlk hr htb
  have loop : ∀ (p1 : ¬ oR 0 2 x) (k i : Nat) (a : Int32), i + k = nm → lFree S x i a k = lFree S x 0 0 nm → J p_ l e_ ({ frames := 7, cells := 1, slots := 6, locals := 110 }) s_ m_ (([.ref (al 0 0), .int x] : List Value).toArray) below_ meth_ c_ 5 Z 1 6 (vx_MQ below_ (Qn Z (yRp (kPool x = 0) al sh (some (.int (lFree S x 0 0 nm))) S)) (Qx Z (yx [(1, xIA)] (kPool x)) al sh S) (([.ref (al 0 0), .int x] : List Value).toArray) s_ 1 6 (yF Z)) al sh S 8 [(0, .ref (al 0 0)), (1, .int x), (2, .int a), (3, .int (nI i))] [] := by
    intro p1 k
    induction k with
    | zero =>
      intro i a hik he
      have hik2 : i = nm := by omega
      subst hik2
      refine j_iload_n (j := 3) cx dX2_free_8 rfl rfl (pc' := 9) rfl ?_
      refine j_aload_n (j := 0) cx dX2_free_9 rfl rfl (pc' := 10) rfl ?_
      refine j_get (fk := 7) (ref := "TerminalYard") (v := .ref (al 9 0)) cx hY.1 rfl (by decide +kernel) (by decide) (by decide +kernel) (fun _ h => h) (yV_r (k := (9, 0)) rfl) rfl dX2_free_10 (pc' := 13) rfl ?_
      refine j_cVR (cells1 := 1) (slots1 := 6) (st1 := [.int (nI i), .int (nI i)]) (As := []) (rest := [.int (nI i)]) cx (YL.size hY.2.2.2.2.2.2.2.2.2.1 hs9) gX2_free_Jx4a65c_size_8abf5 rfl rfl rfl 0 rfl (by decide +kernel) ⟨Nat.le_of_ble_eq_true rfl, Nat.le_of_ble_eq_true rfl⟩ ht9 rfl rfl rfl rfl (Nat.le_of_ble_eq_true rfl) dX2_free_13 ⟨Nat.le_of_ble_eq_true rfl, Nat.le_of_ble_eq_true rfl⟩ (pc' := 16) rfl rfl rfl rfl ?_
      refine j_icmp_ge (tgt := 55) cx dX2_free_16 (by decide) (pc' := 19) rfl (fun _ => ?_) (fun h => by first | exact absurd h nI_gg | exact absurd nI_gg h)
      refine j_iload_n (j := 2) cx dX2_free_55 rfl rfl (pc' := 56) rfl ?_
      exact J.ret _ (j_iret (ty := .int) cx hlk hr rfl (Nat.le_of_ble_eq_true rfl) (Nat.le_of_ble_eq_true rfl) dX2_free_56 ⟨by simp [kPool, p1], congrArg (fun z => some (Value.int z)) he, rfl, rfl, rfl⟩)
    | succ k ih =>
      intro i a hik he
      have hi : i < nm := by omega
      refine j_iload_n (j := 3) cx dX2_free_8 rfl rfl (pc' := 9) rfl ?_
      refine j_aload_n (j := 0) cx dX2_free_9 rfl rfl (pc' := 10) rfl ?_
      refine j_get (fk := 7) (ref := "TerminalYard") (v := .ref (al 9 0)) cx hY.1 rfl (by decide +kernel) (by decide) (by decide +kernel) (fun _ h => h) (yV_r (k := (9, 0)) rfl) rfl dX2_free_10 (pc' := 13) rfl ?_
      refine j_cVR (cells1 := 1) (slots1 := 6) (st1 := [.int (nI nm), .int (nI i)]) (As := []) (rest := [.int (nI i)]) cx (YL.size hY.2.2.2.2.2.2.2.2.2.1 hs9) gX2_free_Jx4a65c_size_8abf5 rfl rfl rfl 0 rfl (by decide +kernel) ⟨Nat.le_of_ble_eq_true rfl, Nat.le_of_ble_eq_true rfl⟩ ht9 rfl rfl rfl rfl (Nat.le_of_ble_eq_true rfl) dX2_free_13 ⟨Nat.le_of_ble_eq_true rfl, Nat.le_of_ble_eq_true rfl⟩ (pc' := 16) rfl rfl rfl rfl ?_
      refine j_icmp_ge (tgt := 55) cx dX2_free_16 (by decide) (pc' := 19) rfl (fun h => by first | exact absurd h (nI_ge hi (by have := hY.2.2.2.2.2.2.2.2.2.2.2.2.2.2.2.2.1; omega)) | exact absurd (nI_ge hi (by have := hY.2.2.2.2.2.2.2.2.2.2.2.2.2.2.2.2.1; omega)) h) (fun _ => ?_)
      refine j_aload_n (j := 0) cx dX2_free_19 rfl rfl (pc' := 20) rfl ?_
      refine j_get (fk := 7) (ref := "TerminalYard") (v := .ref (al 9 0)) cx hY.1 rfl (by decide +kernel) (by decide) (by decide +kernel) (fun _ h => h) (yV_r (k := (9, 0)) rfl) rfl dX2_free_20 (pc' := 23) rfl ?_
      refine j_iload_n (j := 3) cx dX2_free_23 rfl rfl (pc' := 24) rfl ?_
      refine j_cVR (cells1 := 1) (slots1 := 6) (st1 := [.ref (al 20 i)]) (As := [.int (nI i)]) (rest := []) cx (YL.get hY.2.2.2.2.2.2.2.2.2.1 hs9 hi) gX2_free_Jx4a65c_get_915e3 rfl rfl rfl 1 rfl (by decide +kernel) ⟨Nat.le_of_ble_eq_true rfl, Nat.le_of_ble_eq_true rfl⟩ ht9 rfl rfl rfl rfl (Nat.le_of_ble_eq_true rfl) dX2_free_24 ⟨Nat.le_of_ble_eq_true rfl, Nat.le_of_ble_eq_true rfl⟩ (pc' := 27) rfl rfl rfl rfl ?_
      refine j_castS cx (hY.2.2.2.2.2.2.2.2.2.2.2.1 _ hi) rfl (by decide +kernel) rfl dX2_free_27 (pc' := 30) rfl ?_
      refine j_astore (lv' := [(4, .ref (al 20 i)), (0, .ref (al 0 0)), (1, .int x), (2, .int a), (3, .int (nI i))]) cx dX2_free_30 (by decide) rfl (pc' := 32) rfl ?_
      refine j_aload (j := 0) cx dX2_free_32 rfl (pc' := 34) rfl ?_
      refine j_iload_n (j := 2) cx dX2_free_34 rfl rfl (pc' := 35) rfl ?_
      refine j_cVR (cells1 := 1) (slots1 := 6) (st1 := [.int (bI (S 20 i 4 = 117 ∧ S 20 i 1 = x))]) (As := [.int x]) (rest := []) cx (c_X0_serves (hY.2.2.2.2.2.2.2.2.2.2.2.1 _ hi)) gX2_free_X0_serves rfl rfl rfl 1 rfl (by decide +kernel) ⟨Nat.le_of_ble_eq_true rfl, Nat.le_of_ble_eq_true rfl⟩ (hY.2.2.2.2.2.2.2.2.2.2.2.1 _ hi) rfl rfl rfl rfl (Nat.le_of_ble_eq_true rfl) dX2_free_35 ⟨Nat.le_of_ble_eq_true rfl, Nat.le_of_ble_eq_true rfl⟩ (pc' := 38) rfl rfl rfl rfl ?_
      refine j_ifb_eq (tgt := 49) cx dX2_free_38 (by decide) (pc' := 41) rfl (fun h5 => ?_) (fun h5 => ?_)
      · refine j_iinc (j := 4) (v := nI (i + 1)) (lv' := [(3, .int (nI (i + 1))), (4, .ref (al 20 i)), (0, .ref (al 0 0)), (1, .int x), (2, .int a)]) cx dX2_free_49 rfl (nI_1 i) (by decide) rfl (pc' := 52) rfl ?_
        refine j_goto (tgt := 8) cx dX2_free_52 (by decide) ?_
        exact J.sub [2, 3, 4, 0] rfl (ih (i + 1) _ (by omega) (by rw [← he]; simp [lFree, *]))
      · refine j_iload_n (j := 3) cx dX2_free_41 rfl rfl (pc' := 42) rfl ?_
        refine j_aload (j := 0) cx dX2_free_42 rfl (pc' := 44) rfl ?_
        refine j_cVR (cells1 := 1) (slots1 := 6) (st1 := [.int (S 20 i 3 - S 20 i 5), .int a]) (As := []) (rest := [.int a]) cx (c_X0_freeSeats (hY.2.2.2.2.2.2.2.2.2.2.2.1 _ hi)) gX2_free_X0_freeSeats rfl rfl rfl 0 rfl (by decide +kernel) ⟨Nat.le_of_ble_eq_true rfl, Nat.le_of_ble_eq_true rfl⟩ (hY.2.2.2.2.2.2.2.2.2.2.2.1 _ hi) rfl rfl rfl rfl (Nat.le_of_ble_eq_true rfl) dX2_free_44 ⟨Nat.le_of_ble_eq_true rfl, Nat.le_of_ble_eq_true rfl⟩ (pc' := 47) rfl rfl rfl rfl ?_
        refine j_iadd cx dX2_free_47 (pc' := 48) rfl ?_
        refine j_istore_n (lv' := [(2, .int (a + (S 20 i 3 - S 20 i 5))), (4, .ref (al 20 i)), (0, .ref (al 0 0)), (1, .int x), (3, .int (nI i))]) cx dX2_free_48 rfl (by decide) rfl (pc' := 49) rfl ?_
        refine j_iinc (j := 4) (v := nI (i + 1)) (lv' := [(3, .int (nI (i + 1))), (2, .int (a + (S 20 i 3 - S 20 i 5))), (4, .ref (al 20 i)), (0, .ref (al 0 0)), (1, .int x)]) cx dX2_free_49 rfl (nI_1 i) (by decide) rfl (pc' := 52) rfl ?_
        refine j_goto (tgt := 8) cx dX2_free_52 (by decide) ?_
        exact J.sub [3, 4, 1, 0] rfl (ih (i + 1) _ (by omega) (by rw [← he]; simp [lFree, *]))
  refine j_iload_n (j := 1) cx dX2_free_0 rfl rfl (pc' := 1) rfl ?_
  refine j_cSX (cells1 := 1) (slots1 := 6) (st1 := []) (As := [.int x]) (rest := []) cx (c_X2_checkPool hl0) gX2_free_X2_checkPool rfl rfl rfl 1 rfl (by decide +kernel) ⟨Nat.le_of_ble_eq_true rfl, Nat.le_of_ble_eq_true rfl⟩ rfl (Nat.le_of_ble_eq_true rfl) dX2_free_1 ⟨Nat.le_of_ble_eq_true rfl, Nat.le_of_ble_eq_true rfl⟩ (pc' := 4) rfl rfl rfl rfl (fun E hE => jx_out hlk htb (Nat.le_of_ble_eq_true rfl) (Nat.le_of_ble_eq_true rfl) ⟨(1, xIA), by simp, hE.1, by have hq := hE.2; simp [kPool, *]⟩) (fun p1 => ?_)
  refine j_iconst (v := 0) cx dX2_free_4 (by decide) (pc' := 5) rfl ?_
  refine j_istore_n (lv' := [(2, .int 0), (0, .ref (al 0 0)), (1, .int x)]) cx dX2_free_5 rfl (by decide) rfl (pc' := 6) rfl ?_
  refine j_iconst (v := 0) cx dX2_free_6 (by decide) (pc' := 7) rfl ?_
  refine j_istore_n (lv' := [(3, .int 0), (2, .int 0), (0, .ref (al 0 0)), (1, .int x)]) cx dX2_free_7 rfl (by decide) rfl (pc' := 8) rfl ?_
  exact J.sub [2, 3, 1, 0] rfl (loop p1 nm 0 0 (by omega) rfl)
set_option maxHeartbeats 4000000 in
set_option maxRecDepth 100000 in
theorem c_X2_ownsLiveSession {l : Launch} {Z : yL} {al : yAl} {sh : ySh} {S : yS} {nm ns : Nat} {mu : Nat → Nat} {u : Int32} (hY : YC Z al sh nm ns mu) (hs11 : S 11 0 2 = nI ns) : Ct l yX2_ownsLiveSession wsX2_ownsLiveSession ({ frames := 3, cells := 0, slots := 0, locals := 64 }) 0 0 Z [.ref (al 0 0), .int u] al sh S (yR al sh (some (.int (bI (lOwns S u 0 ns = true)))) S) := by
  obtain ⟨tg11, ht11⟩ := YL.obj hY.2.2.2.2.2.2.2.2.2.2.1
  refine Ct.of (lv := [(0, .ref (al 0 0)), (1, .int u)]) (by decide) rfl (Nat.le_of_ble_eq_true rfl) rfl ?_
  intro p_ e_ s_ m_ below_ meth_ c_ cx hlk hr hnm9
  have loop : ∀ (k i : Nat), i + k = ns → lOwns S u i k = lOwns S u 0 ns → J p_ l e_ ({ frames := 3, cells := 0, slots := 0, locals := 64 }) s_ m_ (([.ref (al 0 0), .int u] : List Value).toArray) below_ meth_ c_ 4 Z 0 0 (MQ below_ (Qn Z (yR al sh (some (.int (bI (lOwns S u 0 ns = true)))) S)) (([.ref (al 0 0), .int u] : List Value).toArray) s_ 0 0 (yF Z)) al sh S 2 [(0, .ref (al 0 0)), (1, .int u), (2, .int (nI i))] [] := by
    intro k
    induction k with
    | zero =>
      intro i hik he
      have hik2 : i = ns := by omega
      subst hik2
      refine j_iload_n (j := 2) cx dX2_ownsLiveSession_2 rfl rfl (pc' := 3) rfl ?_
      refine j_aload_n (j := 0) cx dX2_ownsLiveSession_3 rfl rfl (pc' := 4) rfl ?_
      refine j_get (fk := 8) (ref := "TerminalYard") (v := .ref (al 11 0)) cx hY.1 rfl (by decide +kernel) (by decide) (by decide +kernel) (fun _ h => h) (yV_r (k := (11, 0)) rfl) rfl dX2_ownsLiveSession_4 (pc' := 7) rfl ?_
      refine j_cVR (cells1 := 0) (slots1 := 0) (st1 := [.int (nI i), .int (nI i)]) (As := []) (rest := [.int (nI i)]) cx (YL.size hY.2.2.2.2.2.2.2.2.2.2.1 hs11) gX2_ownsLiveSession_Jx4a65c_size_8abf5 rfl rfl rfl 0 rfl (by decide +kernel) ⟨Nat.le_of_ble_eq_true rfl, Nat.le_of_ble_eq_true rfl⟩ ht11 rfl rfl rfl rfl (Nat.le_of_ble_eq_true rfl) dX2_ownsLiveSession_7 ⟨Nat.le_of_ble_eq_true rfl, Nat.le_of_ble_eq_true rfl⟩ (pc' := 10) rfl rfl rfl rfl ?_
      refine j_icmp_ge (tgt := 48) cx dX2_ownsLiveSession_10 (by decide) (pc' := 13) rfl (fun _ => ?_) (fun h => by first | exact absurd h nI_gg | exact absurd nI_gg h)
      refine j_iconst (v := 0) cx dX2_ownsLiveSession_48 (by decide) (pc' := 49) rfl ?_
      exact j_iret (ty := .boolean) cx hlk hr rfl (Nat.le_of_ble_eq_true rfl) (Nat.le_of_ble_eq_true rfl) dX2_ownsLiveSession_49 ⟨congrArg (fun z => some (Value.int z)) (bI_f (by rw [← he]; simp [lOwns])).symm, rfl, rfl, rfl⟩
    | succ k ih =>
      intro i hik he
      have hi : i < ns := by omega
      refine j_iload_n (j := 2) cx dX2_ownsLiveSession_2 rfl rfl (pc' := 3) rfl ?_
      refine j_aload_n (j := 0) cx dX2_ownsLiveSession_3 rfl rfl (pc' := 4) rfl ?_
      refine j_get (fk := 8) (ref := "TerminalYard") (v := .ref (al 11 0)) cx hY.1 rfl (by decide +kernel) (by decide) (by decide +kernel) (fun _ h => h) (yV_r (k := (11, 0)) rfl) rfl dX2_ownsLiveSession_4 (pc' := 7) rfl ?_
      refine j_cVR (cells1 := 0) (slots1 := 0) (st1 := [.int (nI ns), .int (nI i)]) (As := []) (rest := [.int (nI i)]) cx (YL.size hY.2.2.2.2.2.2.2.2.2.2.1 hs11) gX2_ownsLiveSession_Jx4a65c_size_8abf5 rfl rfl rfl 0 rfl (by decide +kernel) ⟨Nat.le_of_ble_eq_true rfl, Nat.le_of_ble_eq_true rfl⟩ ht11 rfl rfl rfl rfl (Nat.le_of_ble_eq_true rfl) dX2_ownsLiveSession_7 ⟨Nat.le_of_ble_eq_true rfl, Nat.le_of_ble_eq_true rfl⟩ (pc' := 10) rfl rfl rfl rfl ?_
      refine j_icmp_ge (tgt := 48) cx dX2_ownsLiveSession_10 (by decide) (pc' := 13) rfl (fun h => by first | exact absurd h (nI_ge hi (by have := hY.2.2.2.2.2.2.2.2.2.2.2.2.2.2.2.2.2; omega)) | exact absurd (nI_ge hi (by have := hY.2.2.2.2.2.2.2.2.2.2.2.2.2.2.2.2.2; omega)) h) (fun _ => ?_)
      refine j_aload_n (j := 0) cx dX2_ownsLiveSession_13 rfl rfl (pc' := 14) rfl ?_
      refine j_get (fk := 8) (ref := "TerminalYard") (v := .ref (al 11 0)) cx hY.1 rfl (by decide +kernel) (by decide) (by decide +kernel) (fun _ h => h) (yV_r (k := (11, 0)) rfl) rfl dX2_ownsLiveSession_14 (pc' := 17) rfl ?_
      refine j_iload_n (j := 2) cx dX2_ownsLiveSession_17 rfl rfl (pc' := 18) rfl ?_
      refine j_cVR (cells1 := 0) (slots1 := 0) (st1 := [.ref (al 21 i)]) (As := [.int (nI i)]) (rest := []) cx (YL.get hY.2.2.2.2.2.2.2.2.2.2.1 hs11 hi) gX2_ownsLiveSession_Jx4a65c_get_915e3 rfl rfl rfl 1 rfl (by decide +kernel) ⟨Nat.le_of_ble_eq_true rfl, Nat.le_of_ble_eq_true rfl⟩ ht11 rfl rfl rfl rfl (Nat.le_of_ble_eq_true rfl) dX2_ownsLiveSession_18 ⟨Nat.le_of_ble_eq_true rfl, Nat.le_of_ble_eq_true rfl⟩ (pc' := 21) rfl rfl rfl rfl ?_
      refine j_castS cx (hY.2.2.2.2.2.2.2.2.2.2.2.2.1 _ hi) rfl (by decide +kernel) rfl dX2_ownsLiveSession_21 (pc' := 24) rfl ?_
      refine j_astore_n (lv' := [(3, .ref (al 21 i)), (0, .ref (al 0 0)), (1, .int u), (2, .int (nI i))]) cx dX2_ownsLiveSession_24 rfl (by decide) rfl (pc' := 25) rfl ?_
      refine j_aload_n (j := 0) cx dX2_ownsLiveSession_25 rfl rfl (pc' := 26) rfl ?_
      refine j_get (fk := 0) (ref := "TerminalYard$Session") (v := .int (S 21 i 0)) cx (hY.2.2.2.2.2.2.2.2.2.2.2.2.1 _ hi) rfl (by decide +kernel) (by decide) (by decide +kernel) (fun _ h => h) (yV_i rfl) rfl dX2_ownsLiveSession_26 (pc' := 29) rfl ?_
      refine j_iload_n (j := 2) cx dX2_ownsLiveSession_29 rfl rfl (pc' := 30) rfl ?_
      refine j_icmp_ne (tgt := 42) cx dX2_ownsLiveSession_30 (by decide) (pc' := 33) rfl (fun h4 => ?_) (fun h4 => ?_)
      · refine j_iinc (j := 3) (v := nI (i + 1)) (lv' := [(2, .int (nI (i + 1))), (3, .ref (al 21 i)), (0, .ref (al 0 0)), (1, .int u)]) cx dX2_ownsLiveSession_42 rfl (nI_1 i) (by decide) rfl (pc' := 45) rfl ?_
        refine j_goto (tgt := 2) cx dX2_ownsLiveSession_45 (by decide) ?_
        exact J.sub [2, 3, 0] rfl (ih (i + 1) (by omega) (by rw [← he]; simp [lOwns, *]))
      · refine j_aload_n (j := 0) cx dX2_ownsLiveSession_33 rfl rfl (pc' := 34) rfl ?_
        refine j_cVR (cells1 := 0) (slots1 := 0) (st1 := [.int (bI (S 21 i 6 = 97))]) (As := []) (rest := []) cx (c_X1_isLive (hY.2.2.2.2.2.2.2.2.2.2.2.2.1 _ hi)) gX2_ownsLiveSession_X1_isLive rfl rfl rfl 0 rfl (by decide +kernel) ⟨Nat.le_of_ble_eq_true rfl, Nat.le_of_ble_eq_true rfl⟩ (hY.2.2.2.2.2.2.2.2.2.2.2.2.1 _ hi) rfl rfl rfl rfl (Nat.le_of_ble_eq_true rfl) dX2_ownsLiveSession_34 ⟨Nat.le_of_ble_eq_true rfl, Nat.le_of_ble_eq_true rfl⟩ (pc' := 37) rfl rfl rfl rfl ?_
        refine j_ifb_eq (tgt := 42) cx dX2_ownsLiveSession_37 (by decide) (pc' := 40) rfl (fun h6 => ?_) (fun h6 => ?_)
        · refine j_iinc (j := 3) (v := nI (i + 1)) (lv' := [(2, .int (nI (i + 1))), (3, .ref (al 21 i)), (0, .ref (al 0 0)), (1, .int u)]) cx dX2_ownsLiveSession_42 rfl (nI_1 i) (by decide) rfl (pc' := 45) rfl ?_
          refine j_goto (tgt := 2) cx dX2_ownsLiveSession_45 (by decide) ?_
          exact J.sub [2, 3, 0] rfl (ih (i + 1) (by omega) (by rw [← he]; simp [lOwns, *]))
        · refine j_iconst (v := 1) cx dX2_ownsLiveSession_40 (by decide) (pc' := 41) rfl ?_
          exact j_iret (ty := .boolean) cx hlk hr rfl (Nat.le_of_ble_eq_true rfl) (Nat.le_of_ble_eq_true rfl) dX2_ownsLiveSession_41 ⟨congrArg (fun z => some (Value.int z)) (bI_t (by rw [← he]; simp [lOwns, *])).symm, rfl, rfl, rfl⟩
  refine j_iconst (v := 0) cx dX2_ownsLiveSession_0 (by decide) (pc' := 1) rfl ?_
  refine j_istore_n (lv' := [(2, .int 0), (0, .ref (al 0 0)), (1, .int u)]) cx dX2_ownsLiveSession_1 rfl (by decide) rfl (pc' := 2) rfl ?_
  exact J.sub [1, 2, 0] rfl (loop ns 0 (by omega) rfl)
set_option maxHeartbeats 4000000 in
set_option maxRecDepth 100000 in
theorem c_X2_chargedToAllSessions {l : Launch} {Z : yL} {al : yAl} {sh : ySh} {S : yS} {nm ns : Nat} {mu : Nat → Nat}  (hY : YC Z al sh nm ns mu) (hs11 : S 11 0 2 = nI ns) : Ct l yX2_chargedToAllSessions wsX2_chargedToAllSessions ({ frames := 3, cells := 0, slots := 0, locals := 64 }) 0 0 Z [.ref (al 0 0)] al sh S (yR al sh (some (.int (lSum S 0 0 ns))) S) := by
  obtain ⟨tg11, ht11⟩ := YL.obj hY.2.2.2.2.2.2.2.2.2.2.1
  refine Ct.of (lv := [(0, .ref (al 0 0))]) (by decide) rfl (Nat.le_of_ble_eq_true rfl) rfl ?_
  intro p_ e_ s_ m_ below_ meth_ c_ cx hlk hr hnm9
  have loop : ∀ (k i : Nat) (a : Int32), i + k = ns → lSum S i a k = lSum S 0 0 ns → J p_ l e_ ({ frames := 3, cells := 0, slots := 0, locals := 64 }) s_ m_ (([.ref (al 0 0)] : List Value).toArray) below_ meth_ c_ 3 Z 0 0 (MQ below_ (Qn Z (yR al sh (some (.int (lSum S 0 0 ns))) S)) (([.ref (al 0 0)] : List Value).toArray) s_ 0 0 (yF Z)) al sh S 4 [(0, .ref (al 0 0)), (1, .int a), (2, .int (nI i))] [] := by
    intro k
    induction k with
    | zero =>
      intro i a hik he
      have hik2 : i = ns := by omega
      subst hik2
      refine j_iload_n (j := 2) cx dX2_chargedToAllSessions_4 rfl rfl (pc' := 5) rfl ?_
      refine j_aload_n (j := 0) cx dX2_chargedToAllSessions_5 rfl rfl (pc' := 6) rfl ?_
      refine j_get (fk := 8) (ref := "TerminalYard") (v := .ref (al 11 0)) cx hY.1 rfl (by decide +kernel) (by decide) (by decide +kernel) (fun _ h => h) (yV_r (k := (11, 0)) rfl) rfl dX2_chargedToAllSessions_6 (pc' := 9) rfl ?_
      refine j_cVR (cells1 := 0) (slots1 := 0) (st1 := [.int (nI i), .int (nI i)]) (As := []) (rest := [.int (nI i)]) cx (YL.size hY.2.2.2.2.2.2.2.2.2.2.1 hs11) gX2_chargedToAllSessions_Jx4a65c_size_8abf5 rfl rfl rfl 0 rfl (by decide +kernel) ⟨Nat.le_of_ble_eq_true rfl, Nat.le_of_ble_eq_true rfl⟩ ht11 rfl rfl rfl rfl (Nat.le_of_ble_eq_true rfl) dX2_chargedToAllSessions_9 ⟨Nat.le_of_ble_eq_true rfl, Nat.le_of_ble_eq_true rfl⟩ (pc' := 12) rfl rfl rfl rfl ?_
      refine j_icmp_ge (tgt := 38) cx dX2_chargedToAllSessions_12 (by decide) (pc' := 15) rfl (fun _ => ?_) (fun h => by first | exact absurd h nI_gg | exact absurd nI_gg h)
      refine j_iload_n (j := 1) cx dX2_chargedToAllSessions_38 rfl rfl (pc' := 39) rfl ?_
      exact j_iret (ty := .int) cx hlk hr rfl (Nat.le_of_ble_eq_true rfl) (Nat.le_of_ble_eq_true rfl) dX2_chargedToAllSessions_39 ⟨congrArg (fun z => some (Value.int z)) he, rfl, rfl, rfl⟩
    | succ k ih =>
      intro i a hik he
      have hi : i < ns := by omega
      refine j_iload_n (j := 2) cx dX2_chargedToAllSessions_4 rfl rfl (pc' := 5) rfl ?_
      refine j_aload_n (j := 0) cx dX2_chargedToAllSessions_5 rfl rfl (pc' := 6) rfl ?_
      refine j_get (fk := 8) (ref := "TerminalYard") (v := .ref (al 11 0)) cx hY.1 rfl (by decide +kernel) (by decide) (by decide +kernel) (fun _ h => h) (yV_r (k := (11, 0)) rfl) rfl dX2_chargedToAllSessions_6 (pc' := 9) rfl ?_
      refine j_cVR (cells1 := 0) (slots1 := 0) (st1 := [.int (nI ns), .int (nI i)]) (As := []) (rest := [.int (nI i)]) cx (YL.size hY.2.2.2.2.2.2.2.2.2.2.1 hs11) gX2_chargedToAllSessions_Jx4a65c_size_8abf5 rfl rfl rfl 0 rfl (by decide +kernel) ⟨Nat.le_of_ble_eq_true rfl, Nat.le_of_ble_eq_true rfl⟩ ht11 rfl rfl rfl rfl (Nat.le_of_ble_eq_true rfl) dX2_chargedToAllSessions_9 ⟨Nat.le_of_ble_eq_true rfl, Nat.le_of_ble_eq_true rfl⟩ (pc' := 12) rfl rfl rfl rfl ?_
      refine j_icmp_ge (tgt := 38) cx dX2_chargedToAllSessions_12 (by decide) (pc' := 15) rfl (fun h => by first | exact absurd h (nI_ge hi (by have := hY.2.2.2.2.2.2.2.2.2.2.2.2.2.2.2.2.2; omega)) | exact absurd (nI_ge hi (by have := hY.2.2.2.2.2.2.2.2.2.2.2.2.2.2.2.2.2; omega)) h) (fun _ => ?_)
      refine j_iload_n (j := 1) cx dX2_chargedToAllSessions_15 rfl rfl (pc' := 16) rfl ?_
      refine j_aload_n (j := 0) cx dX2_chargedToAllSessions_16 rfl rfl (pc' := 17) rfl ?_
      refine j_get (fk := 8) (ref := "TerminalYard") (v := .ref (al 11 0)) cx hY.1 rfl (by decide +kernel) (by decide) (by decide +kernel) (fun _ h => h) (yV_r (k := (11, 0)) rfl) rfl dX2_chargedToAllSessions_17 (pc' := 20) rfl ?_
      refine j_iload_n (j := 2) cx dX2_chargedToAllSessions_20 rfl rfl (pc' := 21) rfl ?_
      refine j_cVR (cells1 := 0) (slots1 := 0) (st1 := [.ref (al 21 i), .int a]) (As := [.int (nI i)]) (rest := [.int a]) cx (YL.get hY.2.2.2.2.2.2.2.2.2.2.1 hs11 hi) gX2_chargedToAllSessions_Jx4a65c_get_915e3 rfl rfl rfl 1 rfl (by decide +kernel) ⟨Nat.le_of_ble_eq_true rfl, Nat.le_of_ble_eq_true rfl⟩ ht11 rfl rfl rfl rfl (Nat.le_of_ble_eq_true rfl) dX2_chargedToAllSessions_21 ⟨Nat.le_of_ble_eq_true rfl, Nat.le_of_ble_eq_true rfl⟩ (pc' := 24) rfl rfl rfl rfl ?_
      refine j_castS cx (hY.2.2.2.2.2.2.2.2.2.2.2.2.1 _ hi) rfl (by decide +kernel) rfl dX2_chargedToAllSessions_24 (pc' := 27) rfl ?_
      refine j_cVR (cells1 := 0) (slots1 := 0) (st1 := [.int (qIn S i), .int a]) (As := []) (rest := [.int a]) cx (c_X1_chargedInAll (hY.2.2.2.2.2.2.2.2.2.2.2.2.1 _ hi) (hY.2.2.2.2.2.2.2.2.2.2.2.2.2.1 _ hi)) gX2_chargedToAllSessions_X1_chargedInAll rfl rfl rfl 0 rfl (by decide +kernel) ⟨Nat.le_of_ble_eq_true rfl, Nat.le_of_ble_eq_true rfl⟩ (hY.2.2.2.2.2.2.2.2.2.2.2.2.1 _ hi) rfl rfl rfl rfl (Nat.le_of_ble_eq_true rfl) dX2_chargedToAllSessions_27 ⟨Nat.le_of_ble_eq_true rfl, Nat.le_of_ble_eq_true rfl⟩ (pc' := 30) rfl rfl rfl rfl ?_
      refine j_iadd cx dX2_chargedToAllSessions_30 (pc' := 31) rfl ?_
      refine j_istore_n (lv' := [(1, .int (a + (qIn S i))), (0, .ref (al 0 0)), (2, .int (nI i))]) cx dX2_chargedToAllSessions_31 rfl (by decide) rfl (pc' := 32) rfl ?_
      refine j_iinc (j := 2) (v := nI (i + 1)) (lv' := [(2, .int (nI (i + 1))), (1, .int (a + (qIn S i))), (0, .ref (al 0 0))]) cx dX2_chargedToAllSessions_32 rfl (nI_1 i) (by decide) rfl (pc' := 35) rfl ?_
      refine j_goto (tgt := 4) cx dX2_chargedToAllSessions_35 (by decide) ?_
      exact J.sub [2, 1, 0] rfl (ih (i + 1) _ (by omega) he)
  refine j_iconst (v := 0) cx dX2_chargedToAllSessions_0 (by decide) (pc' := 1) rfl ?_
  refine j_istore_n (lv' := [(1, .int 0), (0, .ref (al 0 0))]) cx dX2_chargedToAllSessions_1 rfl (by decide) rfl (pc' := 2) rfl ?_
  refine j_iconst (v := 0) cx dX2_chargedToAllSessions_2 (by decide) (pc' := 3) rfl ?_
  refine j_istore_n (lv' := [(2, .int 0), (1, .int 0), (0, .ref (al 0 0))]) cx dX2_chargedToAllSessions_3 rfl (by decide) rfl (pc' := 4) rfl ?_
  exact J.sub [2, 1, 0] rfl (loop ns 0 0 (by omega) rfl)
set_option maxHeartbeats 4000000 in
set_option maxRecDepth 100000 in
theorem c_X2_emptiestMachine {l : Launch} (hl0 : l.stackTraces = false) {Z : yL} {al : yAl} {sh : ySh} {S : yS} {nm ns : Nat} {mu : Nat → Nat} {x : Int32} (hY : YC Z al sh nm ns mu) (hs9 : S 9 0 2 = nI nm) : Cq l yX2_emptiestMachine wsX2_emptiestMachine ({ frames := 6, cells := 1, slots := 6, locals := 90 }) 1 6 Z [.ref (al 0 0), .int x] al sh S (fun v9 al9 sh9 S9 => ∃ b, lBest S x 0 none nm = some b ∧ b < nm ∧ yR al sh (some (.ref (al 20 b))) S v9 al9 sh9 S9) (fun E => E = xNS ∧ lBest S x 0 none nm = none) := by
  obtain ⟨tg9, ht9⟩ := YL.obj hY.2.2.2.2.2.2.2.2.2.1
  refine Cq.of (lv := [(0, .ref (al 0 0)), (1, .int x)]) (by decide) rfl (Nat.le_of_ble_eq_true rfl) rfl ?_
  intro p_ e_ s_ m_ below_ meth_ c_ cx hlk hr htb
  have loop : ∀ (k i : Nat), i + k = nm → (lBest S x i none k = lBest S x 0 none nm → J p_ l e_ ({ frames := 6, cells := 1, slots := 6, locals := 90 }) s_ m_ (([.ref (al 0 0), .int x] : List Value).toArray) below_ meth_ c_ 5 Z 0 0 (vx_MQ below_ (Qn Z (fun v9 al9 sh9 S9 => ∃ b, lBest S x 0 none nm = some b ∧ b < nm ∧ yR al sh (some (.ref (al 20 b))) S v9 al9 sh9 S9)) (Qx Z (fun E => E = xNS ∧ lBest S x 0 none nm = none) al sh S) (([.ref (al 0 0), .int x] : List Value).toArray) s_ 1 6 (yF Z)) al sh S 4 [(0, .ref (al 0 0)), (1, .int x), (2, .null), (3, .int (nI i))] []) ∧ ∀ b, b < nm → lBest S x i (some b) k = lBest S x 0 none nm → J p_ l e_ ({ frames := 6, cells := 1, slots := 6, locals := 90 }) s_ m_ (([.ref (al 0 0), .int x] : List Value).toArray) below_ meth_ c_ 5 Z 0 0 (vx_MQ below_ (Qn Z (fun v9 al9 sh9 S9 => ∃ b, lBest S x 0 none nm = some b ∧ b < nm ∧ yR al sh (some (.ref (al 20 b))) S v9 al9 sh9 S9)) (Qx Z (fun E => E = xNS ∧ lBest S x 0 none nm = none) al sh S) (([.ref (al 0 0), .int x] : List Value).toArray) s_ 1 6 (yF Z)) al sh S 4 [(0, .ref (al 0 0)), (1, .int x), (2, .ref (al 20 b)), (3, .int (nI i))] [] := by
    intro k
    induction k with
    | zero =>
      intro i hik
      have hik2 : i = nm := by omega
      subst hik2
      refine ⟨fun he => ?_, fun b hb he => ?_⟩
      · refine j_iload_n (j := 3) cx dX2_emptiestMachine_4 rfl rfl (pc' := 5) rfl ?_
        refine j_aload_n (j := 0) cx dX2_emptiestMachine_5 rfl rfl (pc' := 6) rfl ?_
        refine j_get (fk := 7) (ref := "TerminalYard") (v := .ref (al 9 0)) cx hY.1 rfl (by decide +kernel) (by decide) (by decide +kernel) (fun _ h => h) (yV_r (k := (9, 0)) rfl) rfl dX2_emptiestMachine_6 (pc' := 9) rfl ?_
        refine j_cVR (cells1 := 0) (slots1 := 0) (st1 := [.int (nI i), .int (nI i)]) (As := []) (rest := [.int (nI i)]) cx (YL.size hY.2.2.2.2.2.2.2.2.2.1 hs9) gX2_emptiestMachine_Jx4a65c_size_8abf5 rfl rfl rfl 0 rfl (by decide +kernel) ⟨Nat.le_of_ble_eq_true rfl, Nat.le_of_ble_eq_true rfl⟩ ht9 rfl rfl rfl rfl (Nat.le_of_ble_eq_true rfl) dX2_emptiestMachine_9 ⟨Nat.le_of_ble_eq_true rfl, Nat.le_of_ble_eq_true rfl⟩ (pc' := 12) rfl rfl rfl rfl ?_
        refine j_icmp_ge (tgt := 70) cx dX2_emptiestMachine_12 (by decide) (pc' := 15) rfl (fun _ => ?_) (fun h => by first | exact absurd h nI_gg | exact absurd nI_gg h)
        refine j_aload_nN (j := 2) cx dX2_emptiestMachine_70 rfl rfl (pc' := 71) rfl ?_
        refine j_ifnonnullN cx dX2_emptiestMachine_71 (pc' := 74) rfl ?_
        exact j_throwSWX (ix := 13) (rx := vx_r13) (ik := 271) (ic := 275) (is := 273) (cls := "java/util/NoSuchElementException") (text := "no machine of the pool takes a session") (names := ["java/lang/RuntimeException", "java/lang/Exception"]) cx hl0 hlk htb (by decide +kernel) (by decide +kernel) (by decide +kernel) (by decide +kernel) rfl (by decide) (by decide) (by decide) (by decide +kernel) (by decide +kernel) (by decide +kernel) (by decide +kernel) (by decide +kernel) dX2_emptiestMachine_74 dX2_emptiestMachine_77 dX2_emptiestMachine_78 dX2_emptiestMachine_81 dX2_emptiestMachine_84 (Nat.le_of_ble_eq_true rfl) (Nat.le_of_ble_eq_true rfl) (Nat.le_of_ble_eq_true rfl) (Nat.le_of_ble_eq_true rfl) (Nat.le_of_ble_eq_true rfl) (Nat.le_of_ble_eq_true rfl) ⟨rfl, he.symm⟩
      · refine j_iload_n (j := 3) cx dX2_emptiestMachine_4 rfl rfl (pc' := 5) rfl ?_
        refine j_aload_n (j := 0) cx dX2_emptiestMachine_5 rfl rfl (pc' := 6) rfl ?_
        refine j_get (fk := 7) (ref := "TerminalYard") (v := .ref (al 9 0)) cx hY.1 rfl (by decide +kernel) (by decide) (by decide +kernel) (fun _ h => h) (yV_r (k := (9, 0)) rfl) rfl dX2_emptiestMachine_6 (pc' := 9) rfl ?_
        refine j_cVR (cells1 := 0) (slots1 := 0) (st1 := [.int (nI i), .int (nI i)]) (As := []) (rest := [.int (nI i)]) cx (YL.size hY.2.2.2.2.2.2.2.2.2.1 hs9) gX2_emptiestMachine_Jx4a65c_size_8abf5 rfl rfl rfl 0 rfl (by decide +kernel) ⟨Nat.le_of_ble_eq_true rfl, Nat.le_of_ble_eq_true rfl⟩ ht9 rfl rfl rfl rfl (Nat.le_of_ble_eq_true rfl) dX2_emptiestMachine_9 ⟨Nat.le_of_ble_eq_true rfl, Nat.le_of_ble_eq_true rfl⟩ (pc' := 12) rfl rfl rfl rfl ?_
        refine j_icmp_ge (tgt := 70) cx dX2_emptiestMachine_12 (by decide) (pc' := 15) rfl (fun _ => ?_) (fun h => by first | exact absurd h nI_gg | exact absurd nI_gg h)
        refine j_aload_n (j := 2) cx dX2_emptiestMachine_70 rfl rfl (pc' := 71) rfl ?_
        refine j_ifnonnull (tgt := 85) cx dX2_emptiestMachine_71 (by decide) ?_
        refine j_aload_n (j := 2) cx dX2_emptiestMachine_85 rfl rfl (pc' := 86) rfl ?_
        exact J.ret _ (j_aret cx hlk hr (Or.inl ⟨_, rfl⟩) (Nat.le_of_ble_eq_true rfl) (Nat.le_of_ble_eq_true rfl) dX2_emptiestMachine_86 ⟨b, he.symm, hb, rfl, rfl, rfl, rfl⟩)
    | succ k ih =>
      intro i hik
      have hi : i < nm := by omega
      refine ⟨fun he => ?_, fun b hb he => ?_⟩
      · refine j_iload_n (j := 3) cx dX2_emptiestMachine_4 rfl rfl (pc' := 5) rfl ?_
        refine j_aload_n (j := 0) cx dX2_emptiestMachine_5 rfl rfl (pc' := 6) rfl ?_
        refine j_get (fk := 7) (ref := "TerminalYard") (v := .ref (al 9 0)) cx hY.1 rfl (by decide +kernel) (by decide) (by decide +kernel) (fun _ h => h) (yV_r (k := (9, 0)) rfl) rfl dX2_emptiestMachine_6 (pc' := 9) rfl ?_
        refine j_cVR (cells1 := 0) (slots1 := 0) (st1 := [.int (nI nm), .int (nI i)]) (As := []) (rest := [.int (nI i)]) cx (YL.size hY.2.2.2.2.2.2.2.2.2.1 hs9) gX2_emptiestMachine_Jx4a65c_size_8abf5 rfl rfl rfl 0 rfl (by decide +kernel) ⟨Nat.le_of_ble_eq_true rfl, Nat.le_of_ble_eq_true rfl⟩ ht9 rfl rfl rfl rfl (Nat.le_of_ble_eq_true rfl) dX2_emptiestMachine_9 ⟨Nat.le_of_ble_eq_true rfl, Nat.le_of_ble_eq_true rfl⟩ (pc' := 12) rfl rfl rfl rfl ?_
        refine j_icmp_ge (tgt := 70) cx dX2_emptiestMachine_12 (by decide) (pc' := 15) rfl (fun h => by first | exact absurd h (nI_ge hi (by have := hY.2.2.2.2.2.2.2.2.2.2.2.2.2.2.2.2.1; omega)) | exact absurd (nI_ge hi (by have := hY.2.2.2.2.2.2.2.2.2.2.2.2.2.2.2.2.1; omega)) h) (fun _ => ?_)
        refine j_aload_n (j := 0) cx dX2_emptiestMachine_15 rfl rfl (pc' := 16) rfl ?_
        refine j_get (fk := 7) (ref := "TerminalYard") (v := .ref (al 9 0)) cx hY.1 rfl (by decide +kernel) (by decide) (by decide +kernel) (fun _ h => h) (yV_r (k := (9, 0)) rfl) rfl dX2_emptiestMachine_16 (pc' := 19) rfl ?_
        refine j_iload_n (j := 3) cx dX2_emptiestMachine_19 rfl rfl (pc' := 20) rfl ?_
        refine j_cVR (cells1 := 0) (slots1 := 0) (st1 := [.ref (al 20 i)]) (As := [.int (nI i)]) (rest := []) cx (YL.get hY.2.2.2.2.2.2.2.2.2.1 hs9 hi) gX2_emptiestMachine_Jx4a65c_get_915e3 rfl rfl rfl 1 rfl (by decide +kernel) ⟨Nat.le_of_ble_eq_true rfl, Nat.le_of_ble_eq_true rfl⟩ ht9 rfl rfl rfl rfl (Nat.le_of_ble_eq_true rfl) dX2_emptiestMachine_20 ⟨Nat.le_of_ble_eq_true rfl, Nat.le_of_ble_eq_true rfl⟩ (pc' := 23) rfl rfl rfl rfl ?_
        refine j_castS cx (hY.2.2.2.2.2.2.2.2.2.2.2.1 _ hi) rfl (by decide +kernel) rfl dX2_emptiestMachine_23 (pc' := 26) rfl ?_
        refine j_astore (lv' := [(4, .ref (al 20 i)), (0, .ref (al 0 0)), (1, .int x), (2, .null), (3, .int (nI i))]) cx dX2_emptiestMachine_26 (by decide) rfl (pc' := 28) rfl ?_
        refine j_aload (j := 0) cx dX2_emptiestMachine_28 rfl (pc' := 30) rfl ?_
        refine j_iload_n (j := 2) cx dX2_emptiestMachine_30 rfl rfl (pc' := 31) rfl ?_
        refine j_cVR (cells1 := 0) (slots1 := 0) (st1 := [.int (bI (S 20 i 4 = 117 ∧ S 20 i 1 = x))]) (As := [.int x]) (rest := []) cx (c_X0_serves (hY.2.2.2.2.2.2.2.2.2.2.2.1 _ hi)) gX2_emptiestMachine_X0_serves rfl rfl rfl 1 rfl (by decide +kernel) ⟨Nat.le_of_ble_eq_true rfl, Nat.le_of_ble_eq_true rfl⟩ (hY.2.2.2.2.2.2.2.2.2.2.2.1 _ hi) rfl rfl rfl rfl (Nat.le_of_ble_eq_true rfl) dX2_emptiestMachine_31 ⟨Nat.le_of_ble_eq_true rfl, Nat.le_of_ble_eq_true rfl⟩ (pc' := 34) rfl rfl rfl rfl ?_
        refine j_ifb_eq (tgt := 64) cx dX2_emptiestMachine_34 (by decide) (pc' := 37) rfl (fun h5 => ?_) (fun h5 => ?_)
        · refine j_iinc (j := 4) (v := nI (i + 1)) (lv' := [(3, .int (nI (i + 1))), (4, .ref (al 20 i)), (0, .ref (al 0 0)), (1, .int x), (2, .null)]) cx dX2_emptiestMachine_64 rfl (nI_1 i) (by decide) rfl (pc' := 67) rfl ?_
          refine j_goto (tgt := 4) cx dX2_emptiestMachine_67 (by decide) ?_
          exact J.sub [2, 3, 4, 0] rfl ((ih (i + 1) (by omega)).1 (by rw [← he]; simp [lBest, *]))
        · refine j_aload (j := 0) cx dX2_emptiestMachine_37 rfl (pc' := 39) rfl ?_
          refine j_cVR (cells1 := 0) (slots1 := 0) (st1 := [.int (S 20 i 3 - S 20 i 5)]) (As := []) (rest := []) cx (c_X0_freeSeats (hY.2.2.2.2.2.2.2.2.2.2.2.1 _ hi)) gX2_emptiestMachine_X0_freeSeats rfl rfl rfl 0 rfl (by decide +kernel) ⟨Nat.le_of_ble_eq_true rfl, Nat.le_of_ble_eq_true rfl⟩ (hY.2.2.2.2.2.2.2.2.2.2.2.1 _ hi) rfl rfl rfl rfl (Nat.le_of_ble_eq_true rfl) dX2_emptiestMachine_39 ⟨Nat.le_of_ble_eq_true rfl, Nat.le_of_ble_eq_true rfl⟩ (pc' := 42) rfl rfl rfl rfl ?_
          refine j_if_le (tgt := 64) cx dX2_emptiestMachine_42 (by decide) (pc' := 45) rfl (fun h7 => ?_) (fun h7 => ?_)
          · refine j_iinc (j := 4) (v := nI (i + 1)) (lv' := [(3, .int (nI (i + 1))), (4, .ref (al 20 i)), (0, .ref (al 0 0)), (1, .int x), (2, .null)]) cx dX2_emptiestMachine_64 rfl (nI_1 i) (by decide) rfl (pc' := 67) rfl ?_
            refine j_goto (tgt := 4) cx dX2_emptiestMachine_67 (by decide) ?_
            exact J.sub [2, 3, 4, 0] rfl ((ih (i + 1) (by omega)).1 (by rw [← he]; simp [lBest, *]))
          · refine j_aload_nN (j := 3) cx dX2_emptiestMachine_45 rfl rfl (pc' := 46) rfl ?_
            refine j_ifnullN (tgt := 61) cx dX2_emptiestMachine_46 (by decide) ?_
            refine j_aload (j := 0) cx dX2_emptiestMachine_61 rfl (pc' := 63) rfl ?_
            refine j_astore_n (lv' := [(2, .ref (al 20 i)), (4, .ref (al 20 i)), (0, .ref (al 0 0)), (1, .int x), (3, .int (nI i))]) cx dX2_emptiestMachine_63 rfl (by decide) rfl (pc' := 64) rfl ?_
            refine j_iinc (j := 4) (v := nI (i + 1)) (lv' := [(3, .int (nI (i + 1))), (2, .ref (al 20 i)), (4, .ref (al 20 i)), (0, .ref (al 0 0)), (1, .int x)]) cx dX2_emptiestMachine_64 rfl (nI_1 i) (by decide) rfl (pc' := 67) rfl ?_
            refine j_goto (tgt := 4) cx dX2_emptiestMachine_67 (by decide) ?_
            exact J.sub [3, 4, 1, 0] rfl ((ih (i + 1) (by omega)).2 _ hi (by rw [← he]; simp [lBest, *]))
      · refine j_iload_n (j := 3) cx dX2_emptiestMachine_4 rfl rfl (pc' := 5) rfl ?_
        refine j_aload_n (j := 0) cx dX2_emptiestMachine_5 rfl rfl (pc' := 6) rfl ?_
        refine j_get (fk := 7) (ref := "TerminalYard") (v := .ref (al 9 0)) cx hY.1 rfl (by decide +kernel) (by decide) (by decide +kernel) (fun _ h => h) (yV_r (k := (9, 0)) rfl) rfl dX2_emptiestMachine_6 (pc' := 9) rfl ?_
        refine j_cVR (cells1 := 0) (slots1 := 0) (st1 := [.int (nI nm), .int (nI i)]) (As := []) (rest := [.int (nI i)]) cx (YL.size hY.2.2.2.2.2.2.2.2.2.1 hs9) gX2_emptiestMachine_Jx4a65c_size_8abf5 rfl rfl rfl 0 rfl (by decide +kernel) ⟨Nat.le_of_ble_eq_true rfl, Nat.le_of_ble_eq_true rfl⟩ ht9 rfl rfl rfl rfl (Nat.le_of_ble_eq_true rfl) dX2_emptiestMachine_9 ⟨Nat.le_of_ble_eq_true rfl, Nat.le_of_ble_eq_true rfl⟩ (pc' := 12) rfl rfl rfl rfl ?_
        refine j_icmp_ge (tgt := 70) cx dX2_emptiestMachine_12 (by decide) (pc' := 15) rfl (fun h => by first | exact absurd h (nI_ge hi (by have := hY.2.2.2.2.2.2.2.2.2.2.2.2.2.2.2.2.1; omega)) | exact absurd (nI_ge hi (by have := hY.2.2.2.2.2.2.2.2.2.2.2.2.2.2.2.2.1; omega)) h) (fun _ => ?_)
        refine j_aload_n (j := 0) cx dX2_emptiestMachine_15 rfl rfl (pc' := 16) rfl ?_
        refine j_get (fk := 7) (ref := "TerminalYard") (v := .ref (al 9 0)) cx hY.1 rfl (by decide +kernel) (by decide) (by decide +kernel) (fun _ h => h) (yV_r (k := (9, 0)) rfl) rfl dX2_emptiestMachine_16 (pc' := 19) rfl ?_
        refine j_iload_n (j := 3) cx dX2_emptiestMachine_19 rfl rfl (pc' := 20) rfl ?_
        refine j_cVR (cells1 := 0) (slots1 := 0) (st1 := [.ref (al 20 i)]) (As := [.int (nI i)]) (rest := []) cx (YL.get hY.2.2.2.2.2.2.2.2.2.1 hs9 hi) gX2_emptiestMachine_Jx4a65c_get_915e3 rfl rfl rfl 1 rfl (by decide +kernel) ⟨Nat.le_of_ble_eq_true rfl, Nat.le_of_ble_eq_true rfl⟩ ht9 rfl rfl rfl rfl (Nat.le_of_ble_eq_true rfl) dX2_emptiestMachine_20 ⟨Nat.le_of_ble_eq_true rfl, Nat.le_of_ble_eq_true rfl⟩ (pc' := 23) rfl rfl rfl rfl ?_
        refine j_castS cx (hY.2.2.2.2.2.2.2.2.2.2.2.1 _ hi) rfl (by decide +kernel) rfl dX2_emptiestMachine_23 (pc' := 26) rfl ?_
        refine j_astore (lv' := [(4, .ref (al 20 i)), (0, .ref (al 0 0)), (1, .int x), (2, .ref (al 20 b)), (3, .int (nI i))]) cx dX2_emptiestMachine_26 (by decide) rfl (pc' := 28) rfl ?_
        refine j_aload (j := 0) cx dX2_emptiestMachine_28 rfl (pc' := 30) rfl ?_
        refine j_iload_n (j := 2) cx dX2_emptiestMachine_30 rfl rfl (pc' := 31) rfl ?_
        refine j_cVR (cells1 := 0) (slots1 := 0) (st1 := [.int (bI (S 20 i 4 = 117 ∧ S 20 i 1 = x))]) (As := [.int x]) (rest := []) cx (c_X0_serves (hY.2.2.2.2.2.2.2.2.2.2.2.1 _ hi)) gX2_emptiestMachine_X0_serves rfl rfl rfl 1 rfl (by decide +kernel) ⟨Nat.le_of_ble_eq_true rfl, Nat.le_of_ble_eq_true rfl⟩ (hY.2.2.2.2.2.2.2.2.2.2.2.1 _ hi) rfl rfl rfl rfl (Nat.le_of_ble_eq_true rfl) dX2_emptiestMachine_31 ⟨Nat.le_of_ble_eq_true rfl, Nat.le_of_ble_eq_true rfl⟩ (pc' := 34) rfl rfl rfl rfl ?_
        refine j_ifb_eq (tgt := 64) cx dX2_emptiestMachine_34 (by decide) (pc' := 37) rfl (fun h5 => ?_) (fun h5 => ?_)
        · refine j_iinc (j := 4) (v := nI (i + 1)) (lv' := [(3, .int (nI (i + 1))), (4, .ref (al 20 i)), (0, .ref (al 0 0)), (1, .int x), (2, .ref (al 20 b))]) cx dX2_emptiestMachine_64 rfl (nI_1 i) (by decide) rfl (pc' := 67) rfl ?_
          refine j_goto (tgt := 4) cx dX2_emptiestMachine_67 (by decide) ?_
          exact J.sub [2, 3, 4, 0] rfl ((ih (i + 1) (by omega)).2 _ hb (by rw [← he]; simp [lBest, *]))
        · refine j_aload (j := 0) cx dX2_emptiestMachine_37 rfl (pc' := 39) rfl ?_
          refine j_cVR (cells1 := 0) (slots1 := 0) (st1 := [.int (S 20 i 3 - S 20 i 5)]) (As := []) (rest := []) cx (c_X0_freeSeats (hY.2.2.2.2.2.2.2.2.2.2.2.1 _ hi)) gX2_emptiestMachine_X0_freeSeats rfl rfl rfl 0 rfl (by decide +kernel) ⟨Nat.le_of_ble_eq_true rfl, Nat.le_of_ble_eq_true rfl⟩ (hY.2.2.2.2.2.2.2.2.2.2.2.1 _ hi) rfl rfl rfl rfl (Nat.le_of_ble_eq_true rfl) dX2_emptiestMachine_39 ⟨Nat.le_of_ble_eq_true rfl, Nat.le_of_ble_eq_true rfl⟩ (pc' := 42) rfl rfl rfl rfl ?_
          refine j_if_le (tgt := 64) cx dX2_emptiestMachine_42 (by decide) (pc' := 45) rfl (fun h7 => ?_) (fun h7 => ?_)
          · refine j_iinc (j := 4) (v := nI (i + 1)) (lv' := [(3, .int (nI (i + 1))), (4, .ref (al 20 i)), (0, .ref (al 0 0)), (1, .int x), (2, .ref (al 20 b))]) cx dX2_emptiestMachine_64 rfl (nI_1 i) (by decide) rfl (pc' := 67) rfl ?_
            refine j_goto (tgt := 4) cx dX2_emptiestMachine_67 (by decide) ?_
            exact J.sub [2, 3, 4, 0] rfl ((ih (i + 1) (by omega)).2 _ hb (by rw [← he]; simp [lBest, *]))
          · refine j_aload_n (j := 3) cx dX2_emptiestMachine_45 rfl rfl (pc' := 46) rfl ?_
            refine j_ifnull cx dX2_emptiestMachine_46 (pc' := 49) rfl ?_
            refine j_aload (j := 0) cx dX2_emptiestMachine_49 rfl (pc' := 51) rfl ?_
            refine j_get (fk := 5) (ref := "TerminalYard$Machine") (v := .int (S 20 i 5)) cx (hY.2.2.2.2.2.2.2.2.2.2.2.1 _ hi) rfl (by decide +kernel) (by decide) (by decide +kernel) (fun _ h => h) (yV_i rfl) rfl dX2_emptiestMachine_51 (pc' := 54) rfl ?_
            refine j_aload_n (j := 3) cx dX2_emptiestMachine_54 rfl rfl (pc' := 55) rfl ?_
            refine j_get (fk := 5) (ref := "TerminalYard$Machine") (v := .int (S 20 b 5)) cx (hY.2.2.2.2.2.2.2.2.2.2.2.1 _ hb) rfl (by decide +kernel) (by decide) (by decide +kernel) (fun _ h => h) (yV_i rfl) rfl dX2_emptiestMachine_55 (pc' := 58) rfl ?_
            refine j_icmp_ge (tgt := 64) cx dX2_emptiestMachine_58 (by decide) (pc' := 61) rfl (fun h8 => ?_) (fun h8 => ?_)
            · refine j_iinc (j := 4) (v := nI (i + 1)) (lv' := [(3, .int (nI (i + 1))), (4, .ref (al 20 i)), (0, .ref (al 0 0)), (1, .int x), (2, .ref (al 20 b))]) cx dX2_emptiestMachine_64 rfl (nI_1 i) (by decide) rfl (pc' := 67) rfl ?_
              refine j_goto (tgt := 4) cx dX2_emptiestMachine_67 (by decide) ?_
              exact J.sub [2, 3, 4, 0] rfl ((ih (i + 1) (by omega)).2 _ hb (by rw [← he]; simp [lBest, *]))
            · refine j_aload (j := 0) cx dX2_emptiestMachine_61 rfl (pc' := 63) rfl ?_
              refine j_astore_n (lv' := [(2, .ref (al 20 i)), (4, .ref (al 20 i)), (0, .ref (al 0 0)), (1, .int x), (3, .int (nI i))]) cx dX2_emptiestMachine_63 rfl (by decide) rfl (pc' := 64) rfl ?_
              refine j_iinc (j := 4) (v := nI (i + 1)) (lv' := [(3, .int (nI (i + 1))), (2, .ref (al 20 i)), (4, .ref (al 20 i)), (0, .ref (al 0 0)), (1, .int x)]) cx dX2_emptiestMachine_64 rfl (nI_1 i) (by decide) rfl (pc' := 67) rfl ?_
              refine j_goto (tgt := 4) cx dX2_emptiestMachine_67 (by decide) ?_
              exact J.sub [3, 4, 1, 0] rfl ((ih (i + 1) (by omega)).2 _ hi (by rw [← he]; simp [lBest, *]))
  refine j_aconst cx dX2_emptiestMachine_0 (pc' := 1) rfl ?_
  refine j_astore_nN (lv' := [(2, .null), (0, .ref (al 0 0)), (1, .int x)]) cx dX2_emptiestMachine_1 rfl (by decide) rfl (pc' := 2) rfl ?_
  refine j_iconst (v := 0) cx dX2_emptiestMachine_2 (by decide) (pc' := 3) rfl ?_
  refine j_istore_n (lv' := [(3, .int 0), (2, .null), (0, .ref (al 0 0)), (1, .int x)]) cx dX2_emptiestMachine_3 rfl (by decide) rfl (pc' := 4) rfl ?_
  exact J.sub [2, 3, 1, 0] rfl ((loop nm 0 (by omega)).1 rfl)
