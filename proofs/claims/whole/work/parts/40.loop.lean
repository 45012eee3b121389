/-- every call: the two sides agree, and the numbers stay in step -/
def PURE : Prop := (∀ (S : yS) (nm ns : Nat) (mu : Nat → Nat) (K : Nat) (a1 : Int32) (a2 : Int32) (a3 : Int32), K ≤ 3000000 → IN S nm ns mu K → P_addMachine S nm ns mu K a1 a2 a3) ∧ (∀ (S : yS) (nm ns : Nat) (mu : Nat → Nat) (K : Nat) (a1 : Int32) (a2 : Int32) (a3 : Int32), K ≤ 3000000 → IN S nm ns mu K → P_setLimits S nm ns mu K a1 a2 a3) ∧ (∀ (S : yS) (nm ns : Nat) (mu : Nat → Nat) (K : Nat) (a1 : Int32), K ≤ 3000000 → IN S nm ns mu K → P_drain S nm ns mu K a1) ∧ (∀ (S : yS) (nm ns : Nat) (mu : Nat → Nat) (K : Nat) (a1 : Int32), K ≤ 3000000 → IN S nm ns mu K → P_putUp S nm ns mu K a1) ∧ (∀ (S : yS) (nm ns : Nat) (mu : Nat → Nat) (K : Nat) (a1 : Int32), K ≤ 3000000 → IN S nm ns mu K → P_machine S nm ns mu K a1) ∧ (∀ (S : yS) (nm ns : Nat) (mu : Nat → Nat) (K : Nat) (a1 : Int32), K ≤ 3000000 → IN S nm ns mu K → P_next S nm ns mu K a1) ∧ (∀ (S : yS) (nm ns : Nat) (mu : Nat → Nat) (K : Nat) (a1 : Int32), K ≤ 3000000 → IN S nm ns mu K → P_free S nm ns mu K a1) ∧ (∀ (S : yS) (nm ns : Nat) (mu : Nat → Nat) (K : Nat) (a1 : Int32) (a2 : Int32), K ≤ 3000000 → IN S nm ns mu K → P_assign S nm ns mu K a1 a2) ∧ (∀ (S : yS) (nm ns : Nat) (mu : Nat → Nat) (K : Nat) (a1 : Int32) (a2 : Int32), K ≤ 3000000 → IN S nm ns mu K → P_buy S nm ns mu K a1 a2) ∧ (∀ (S : yS) (nm ns : Nat) (mu : Nat → Nat) (K : Nat) (a1 : Int32) (a2 : Int32) (a3 : Int32), K ≤ 3000000 → IN S nm ns mu K → P_lend S nm ns mu K a1 a2 a3) ∧ (∀ (S : yS) (nm ns : Nat) (mu : Nat → Nat) (K : Nat) (a1 : Int32) (a2 : Int32) (a3 : Int32), K ≤ 3000000 → IN S nm ns mu K → P_giveBack S nm ns mu K a1 a2 a3) ∧ (∀ (S : yS) (nm ns : Nat) (mu : Nat → Nat) (K : Nat) (a1 : Int32), K ≤ 3000000 → IN S nm ns mu K → P_minutes S nm ns mu K a1) ∧ (∀ (S : yS) (nm ns : Nat) (mu : Nat → Nat) (K : Nat) (a1 : Int32), K ≤ 3000000 → IN S nm ns mu K → P_minutesBySessions S nm ns mu K a1) ∧ (∀ (S : yS) (nm ns : Nat) (mu : Nat → Nat) (K : Nat) (a1 : Int32) (a2 : Int32), K ≤ 3000000 → IN S nm ns mu K → P_logIn S nm ns mu K a1 a2) ∧ (∀ (S : yS) (nm ns : Nat) (mu : Nat → Nat) (K : Nat) (a1 : Int32), K ≤ 3000000 → IN S nm ns mu K → P_logOut S nm ns mu K a1) ∧ (∀ (S : yS) (nm ns : Nat) (mu : Nat → Nat) (K : Nat) (a1 : Int32), K ≤ 3000000 → IN S nm ns mu K → P_use S nm ns mu K a1) ∧ (∀ (S : yS) (nm ns : Nat) (mu : Nat → Nat) (K : Nat) (a1 : Int32) (a2 : Int32), K ≤ 3000000 → IN S nm ns mu K → P_takeOver S nm ns mu K a1 a2) ∧ (∀ (S : yS) (nm ns : Nat) (mu : Nat → Nat) (K : Nat) (a1 : Int32), K ≤ 3000000 → IN S nm ns mu K → P_handBack S nm ns mu K a1) ∧ (∀ (S : yS) (nm ns : Nat) (mu : Nat → Nat) (K : Nat) (a1 : Int32) (a2 : Int32), K ≤ 3000000 → IN S nm ns mu K → P_print S nm ns mu K a1 a2) ∧ (∀ (S : yS) (nm ns : Nat) (mu : Nat → Nat) (K : Nat) (a1 : Int32), K ≤ 3000000 → IN S nm ns mu K → P_state S nm ns mu K a1) ∧ (∀ (S : yS) (nm ns : Nat) (mu : Nat → Nat) (K : Nat) (a1 : Int32), K ≤ 3000000 → IN S nm ns mu K → P_machineOf S nm ns mu K a1) ∧ (∀ (S : yS) (nm ns : Nat) (mu : Nat → Nat) (K : Nat) (a1 : Int32), K ≤ 3000000 → IN S nm ns mu K → P_userOf S nm ns mu K a1) ∧ (∀ (S : yS) (nm ns : Nat) (mu : Nat → Nat) (K : Nat) (a1 : Int32) (a2 : Int32), K ≤ 3000000 → IN S nm ns mu K → P_charged S nm ns mu K a1 a2) ∧ (∀ (S : yS) (nm ns : Nat) (mu : Nat → Nat) (K : Nat) (a1 : Int32), K ≤ 3000000 → IN S nm ns mu K → P_endsIn S nm ns mu K a1) ∧ (∀ (S : yS) (nm ns : Nat) (mu : Nat → Nat) (K : Nat) (a1 : Int32), K ≤ 3000000 → IN S nm ns mu K → P_pass S nm ns mu K a1) ∧ (∀ (S : yS) (nm ns : Nat) (mu : Nat → Nat) (K : Nat) (k : Int32), IN S nm ns mu K → IN (sup S 40 0 0 k) nm ns mu (K + 5000))
theorem and31 (x : Int32) : ∃ n : Nat, n < 32 ∧ x &&& 31 = nI n := by
  refine ⟨x.toBitVec.toNat % 32, Nat.mod_lt _ (by decide), ?_⟩
  apply Int32.toBitVec_inj.mp
  apply BitVec.eq_of_toNat_eq
  rw [Int32.toBitVec_and, BitVec.toNat_and]
  have h1 : x.toBitVec.toNat &&& (31 : Int32).toBitVec.toNat = x.toBitVec.toNat % 32 := Nat.and_two_pow_sub_one_eq_mod x.toBitVec.toNat 5
  have h2 : (nI (x.toBitVec.toNat % 32)).toBitVec.toNat = (x.toBitVec.toNat % 32) % 2 ^ 32 := by
    show (BitVec.ofNat 32 (x.toBitVec.toNat % 32)).toNat = _
    rw [BitVec.toNat_ofNat]
  rw [h1, h2, Nat.mod_eq_of_lt (Nat.lt_trans (Nat.mod_lt _ (by decide)) (by decide))]
theorem WI.up {Z : yL} {x0 m0 o0 d0 K K' : Nat} {al : yAl} {sh : ySh} {S : yS} (h : WI Z x0 m0 o0 d0 K al sh S) (hK : K = K') : WI Z x0 m0 o0 d0 K' al sh S := hK ▸ h
theorem IN.more {S : yS} {nm ns K K' : Nat} {mu : Nat → Nat} (h : IN S nm ns mu K) (hK : K ≤ K') : IN S nm ns mu K' := by
  obtain ⟨n1, n2, n3, n4, n5, n6, n7, n8, n9, n10, n11, n12, n13, n14, n15, n16, n17, n18, n19, n20⟩ := h
  exact ⟨n1, n2, n3, n4, n5, n6, n7, n8, n9, n10, fun j hj => ⟨(n11 j hj).1, Int.le_trans (n11 j hj).2 (by omega)⟩, n12, n13, n14, n15, n16, n17, n18, n19, n20⟩
theorem WI.more {Z : yL} {x0 m0 o0 d0 K K' : Nat} {al : yAl} {sh : ySh} {S : yS} (h : WI Z x0 m0 o0 d0 K al sh S) (hK : K ≤ K') : WI Z x0 m0 o0 d0 K' al sh S := by
  obtain ⟨h1, h2, h3, h4, h5, h6, h7, nm, ns, mu, h8, h9, h10⟩ := h
  exact ⟨h1, h2, h3, h4, h5, h6, h7, nm, ns, mu, h8, h9, h10.more hK⟩
set_option maxHeartbeats 4000000 in
set_option maxRecDepth 100000 in
theorem law_loop {p : Program} {l : Launch} {e : Env} {R : Room} {s : State} {m : MethodId} {args : Array Value} {below : List Frame} {meth : Method} {c : Code} {Q : State → Prop} {Z : yL} {b L x0 m0 o0 d0 : Nat} {xs : Nat → Int32} (hPU : PURE) (hl0 : l.stackTraces = false) (cx : Cx p s m args c code 9 RL wsL_law Z) (hX : va_X b L xs s s.heap) (hb0 : b < s.heap.size ∧ ¬ Z.2.2.1 ≤ b) (hR : 20 ≤ R.frames ∧ 10000 ≤ R.locals ∧ 603072 ≤ R.cells ∧ 7207018 ≤ R.slots) (hL : L ≤ 2048) (hend : ∀ (al : yAl) (sh : ySh) (S : yS) (lv : List (Nat × Value)), J p l e R s m args below meth c 9 Z 603072 7207018 Q al sh S 1890 lv []) : ∀ (k t : Nat) (al : yAl) (sh : ySh) (S : yS), t + k = L / 4 → WI Z x0 m0 o0 d0 (5000 * t) al sh S → J p l e R s m args below meth c 9 Z (100 + 1170 * t) (1000 + 14000 * t) Q al sh S 28 [(0, .ref b), (1, .ref x0), (2, .ref m0), (3, .ref o0), (4, .ref d0), (5, .int (nI (4 * t)))] [] := by
  intro k
  induction k with
  | zero =>
    intro t al sh S hk hW
    refine j_iload (j := 5) cx dL_law_28 rfl (pc' := 30) rfl ?_
    refine j_aload_n (j := 0) cx dL_law_30 rfl rfl (pc' := 31) rfl ?_
    refine j_slen cx hX hb0 dL_law_31 (pc' := 32) rfl ?_
    refine j_iconst (v := 4) cx dL_law_32 (by decide) (pc' := 33) rfl ?_
    refine j_isub cx dL_law_33 (pc' := 34) rfl ?_
    have hsub : (nI L - nI 4).toInt = (L : Int) - 4 := pk_sub_toInt (by omega) (by omega)
    have hcmp : (nI L - 4 < nI (4 * t)) ↔ L < 4 * t + 4 := by (rw [Int32.lt_iff_toInt_lt, show nI L - 4 = nI L - nI 4 from rfl, hsub, nI_toInt (by omega)]; omega)
    refine j_icmp_gt (tgt := 1890) cx dL_law_34 (by decide) (pc' := 37) rfl (fun _ => ?_) (fun h => absurd (hcmp.mpr (by omega)) h)
    exact J.widen (k := 603072) (n := 7207018) (by omega) (by omega) (hend al sh S _)
  | succ k ih =>
    intro t al sh S hk hW
    refine j_iload (j := 5) cx dL_law_28 rfl (pc' := 30) rfl ?_
    refine j_aload_n (j := 0) cx dL_law_30 rfl rfl (pc' := 31) rfl ?_
    refine j_slen cx hX hb0 dL_law_31 (pc' := 32) rfl ?_
    refine j_iconst (v := 4) cx dL_law_32 (by decide) (pc' := 33) rfl ?_
    refine j_isub cx dL_law_33 (pc' := 34) rfl ?_
    have hsub : (nI L - nI 4).toInt = (L : Int) - 4 := pk_sub_toInt (by omega) (by omega)
    have hcmp : (nI L - 4 < nI (4 * t)) ↔ L < 4 * t + 4 := by (rw [Int32.lt_iff_toInt_lt, show nI L - 4 = nI L - nI 4 from rfl, hsub, nI_toInt (by omega)]; omega)
    refine j_icmp_gt (tgt := 1890) cx dL_law_34 (by decide) (pc' := 37) rfl (fun h => absurd (hcmp.mp h) (by omega)) (fun _ => ?_)
    refine j_aload_n (j := 0) cx dL_law_37 rfl rfl (pc' := 38) rfl ?_
    refine j_iload (j := 5) cx dL_law_38 rfl (pc' := 40) rfl ?_
    refine j_sld (n := 4 * t) cx hX hb0 rfl (by omega) dL_law_40 (pc' := 41) rfl ?_
    refine j_bipush (v := 31) cx dL_law_41 (by decide) (pc' := 43) rfl ?_
    refine j_iand cx dL_law_43 (pc' := 44) rfl ?_
    obtain ⟨n, hn, hx⟩ := and31 (xs (4 * t))
    rw [hx]
    have hk9 : ∀ al9 sh9 S9, WI Z x0 m0 o0 d0 (5000 * t + 5000) al9 sh9 S9 → J p l e R s m args below meth c 9 Z (100 + 1170 * t + 20) (1000 + 14000 * t + 300) Q al9 sh9 S9 1884 [(0, .ref b), (1, .ref x0), (2, .ref m0), (3, .ref o0), (4, .ref d0), (5, .int (nI (4 * t)))] [] := by
      intro al9 sh9 S9 hW9
      refine j_iinc (j := 5) (v := nI (4 * (t + 1))) (lv' := [(5, .int (nI (4 * (t + 1)))), (0, .ref b), (1, .ref x0), (2, .ref m0), (3, .ref o0), (4, .ref d0)]) cx dL_law_1884 rfl (nI_add (4 * t) 4) (by decide) rfl (pc' := 1887) rfl ?_
      refine j_goto (tgt := 28) cx dL_law_1887 (by decide) ?_
      exact J.sub [1, 2, 3, 4, 5, 0] rfl (J.widen (k := 100 + 1170 * (t + 1)) (n := 1000 + 14000 * (t + 1)) (by omega) (by omega) (ih (t + 1) al9 sh9 S9 (by omega) (hW9.up (by omega))))
    have hR9 : 20 ≤ R.frames ∧ 10000 ≤ R.locals ∧ (100 + 1170 * t) + 20 ≤ R.cells ∧ (1000 + 14000 * t) + 300 ≤ R.slots := ⟨by omega, by omega, by omega, by omega⟩
    have hK9 : 5000 * t ≤ 3000000 := by omega
    match n, hn with
    | 0, _ => exact j_tabIn (off := 128) (tgt := 172) cx dL_law_44 (by decide) (by decide) (by decide) (by decide) (l_addMachine hl0 cx hX hb0 hR9 ⟨by omega, hL⟩ hW (fun nm ns mu hN => hPU.1 S nm ns mu _ _ _ _ hK9 hN) hk9)
    | 1, _ => exact j_tabIn (off := 208) (tgt := 252) cx dL_law_44 (by decide) (by decide) (by decide) (by decide) (l_setLimits hl0 cx hX hb0 hR9 ⟨by omega, hL⟩ hW (fun nm ns mu hN => hPU.2.1 S nm ns mu _ _ _ _ hK9 hN) hk9)
    | 2, _ => exact j_tabIn (off := 288) (tgt := 332) cx dL_law_44 (by decide) (by decide) (by decide) (by decide) (l_drain hl0 cx hX hb0 hR9 ⟨by omega, hL⟩ hW (fun nm ns mu hN => hPU.2.2.1 S nm ns mu _ _ hK9 hN) hk9)
    | 3, _ => exact j_tabIn (off := 344) (tgt := 388) cx dL_law_44 (by decide) (by decide) (by decide) (by decide) (l_putUp hl0 cx hX hb0 hR9 ⟨by omega, hL⟩ hW (fun nm ns mu hN => hPU.2.2.2.1 S nm ns mu _ _ hK9 hN) hk9)
    | 4, _ => exact j_tabIn (off := 400) (tgt := 444) cx dL_law_44 (by decide) (by decide) (by decide) (by decide) (l_machine hl0 cx hX hb0 hR9 ⟨by omega, hL⟩ hW (fun nm ns mu hN => hPU.2.2.2.2.1 S nm ns mu _ _ hK9 hN) hk9)
    | 5, _ => exact j_tabIn (off := 456) (tgt := 500) cx dL_law_44 (by decide) (by decide) (by decide) (by decide) (l_next hl0 cx hX hb0 hR9 ⟨by omega, hL⟩ hW (fun nm ns mu hN => hPU.2.2.2.2.2.1 S nm ns mu _ _ hK9 hN) hk9)
    | 6, _ => exact j_tabIn (off := 512) (tgt := 556) cx dL_law_44 (by decide) (by decide) (by decide) (by decide) (l_free hl0 cx hX hb0 hR9 ⟨by omega, hL⟩ hW (fun nm ns mu hN => hPU.2.2.2.2.2.2.1 S nm ns mu _ _ hK9 hN) hk9)
    | 7, _ => exact j_tabIn (off := 568) (tgt := 612) cx dL_law_44 (by decide) (by decide) (by decide) (by decide) (l_assign hl0 cx hX hb0 hR9 ⟨by omega, hL⟩ hW (fun nm ns mu hN => hPU.2.2.2.2.2.2.2.1 S nm ns mu _ _ _ hK9 hN) hk9)
    | 8, _ => exact j_tabIn (off := 636) (tgt := 680) cx dL_law_44 (by decide) (by decide) (by decide) (by decide) (l_buy hl0 cx hX hb0 hR9 ⟨by omega, hL⟩ hW (fun nm ns mu hN => hPU.2.2.2.2.2.2.2.2.1 S nm ns mu _ _ _ hK9 hN) hk9)
    | 9, _ => exact j_tabIn (off := 704) (tgt := 748) cx dL_law_44 (by decide) (by decide) (by decide) (by decide) (l_lend hl0 cx hX hb0 hR9 ⟨by omega, hL⟩ hW (fun nm ns mu hN => hPU.2.2.2.2.2.2.2.2.2.1 S nm ns mu _ _ _ _ hK9 hN) hk9)
    | 10, _ => exact j_tabIn (off := 784) (tgt := 828) cx dL_law_44 (by decide) (by decide) (by decide) (by decide) (l_giveBack hl0 cx hX hb0 hR9 ⟨by omega, hL⟩ hW (fun nm ns mu hN => hPU.2.2.2.2.2.2.2.2.2.2.1 S nm ns mu _ _ _ _ hK9 hN) hk9)
    | 11, _ => exact j_tabIn (off := 864) (tgt := 908) cx dL_law_44 (by decide) (by decide) (by decide) (by decide) (l_minutes hl0 cx hX hb0 hR9 ⟨by omega, hL⟩ hW (fun nm ns mu hN => hPU.2.2.2.2.2.2.2.2.2.2.2.1 S nm ns mu _ _ hK9 hN) hk9)
    | 12, _ => exact j_tabIn (off := 920) (tgt := 964) cx dL_law_44 (by decide) (by decide) (by decide) (by decide) (l_minutesBySessions hl0 cx hX hb0 hR9 ⟨by omega, hL⟩ hW (fun nm ns mu hN => hPU.2.2.2.2.2.2.2.2.2.2.2.2.1 S nm ns mu _ _ hK9 hN) hk9)
    | 13, _ => exact j_tabIn (off := 976) (tgt := 1020) cx dL_law_44 (by decide) (by decide) (by decide) (by decide) (l_logIn hl0 cx hX hb0 hR9 ⟨by omega, hL⟩ hW (fun nm ns mu hN => hPU.2.2.2.2.2.2.2.2.2.2.2.2.2.1 S nm ns mu _ _ _ hK9 hN) hk9)
    | 14, _ => exact j_tabIn (off := 1044) (tgt := 1088) cx dL_law_44 (by decide) (by decide) (by decide) (by decide) (l_logOut hl0 cx hX hb0 hR9 ⟨by omega, hL⟩ hW (fun nm ns mu hN => hPU.2.2.2.2.2.2.2.2.2.2.2.2.2.2.1 S nm ns mu _ _ hK9 hN) hk9)
    | 15, _ => exact j_tabIn (off := 1100) (tgt := 1144) cx dL_law_44 (by decide) (by decide) (by decide) (by decide) (l_use hl0 cx hX hb0 hR9 ⟨by omega, hL⟩ hW (fun nm ns mu hN => hPU.2.2.2.2.2.2.2.2.2.2.2.2.2.2.2.1 S nm ns mu _ _ hK9 hN) hk9)
    | 16, _ => exact j_tabIn (off := 1156) (tgt := 1200) cx dL_law_44 (by decide) (by decide) (by decide) (by decide) (l_takeOver hl0 cx hX hb0 hR9 ⟨by omega, hL⟩ hW (fun nm ns mu hN => hPU.2.2.2.2.2.2.2.2.2.2.2.2.2.2.2.2.1 S nm ns mu _ _ _ hK9 hN) hk9)
    | 17, _ => exact j_tabIn (off := 1224) (tgt := 1268) cx dL_law_44 (by decide) (by decide) (by decide) (by decide) (l_handBack hl0 cx hX hb0 hR9 ⟨by omega, hL⟩ hW (fun nm ns mu hN => hPU.2.2.2.2.2.2.2.2.2.2.2.2.2.2.2.2.2.1 S nm ns mu _ _ hK9 hN) hk9)
    | 18, _ => exact j_tabIn (off := 1280) (tgt := 1324) cx dL_law_44 (by decide) (by decide) (by decide) (by decide) (l_print hl0 cx hX hb0 hR9 ⟨by omega, hL⟩ hW (fun nm ns mu hN => hPU.2.2.2.2.2.2.2.2.2.2.2.2.2.2.2.2.2.2.1 S nm ns mu _ _ _ hK9 hN) hk9)
    | 19, _ => exact j_tabIn (off := 1348) (tgt := 1392) cx dL_law_44 (by decide) (by decide) (by decide) (by decide) (l_state hl0 cx hX hb0 hR9 ⟨by omega, hL⟩ hW (fun nm ns mu hN => hPU.2.2.2.2.2.2.2.2.2.2.2.2.2.2.2.2.2.2.2.1 S nm ns mu _ _ hK9 hN) hk9)
    | 20, _ => exact j_tabIn (off := 1404) (tgt := 1448) cx dL_law_44 (by decide) (by decide) (by decide) (by decide) (l_machineOf hl0 cx hX hb0 hR9 ⟨by omega, hL⟩ hW (fun nm ns mu hN => hPU.2.2.2.2.2.2.2.2.2.2.2.2.2.2.2.2.2.2.2.2.1 S nm ns mu _ _ hK9 hN) hk9)
    | 21, _ => exact j_tabIn (off := 1460) (tgt := 1504) cx dL_law_44 (by decide) (by decide) (by decide) (by decide) (l_userOf hl0 cx hX hb0 hR9 ⟨by omega, hL⟩ hW (fun nm ns mu hN => hPU.2.2.2.2.2.2.2.2.2.2.2.2.2.2.2.2.2.2.2.2.2.1 S nm ns mu _ _ hK9 hN) hk9)
    | 22, _ => exact j_tabIn (off := 1516) (tgt := 1560) cx dL_law_44 (by decide) (by decide) (by decide) (by decide) (l_charged hl0 cx hX hb0 hR9 ⟨by omega, hL⟩ hW (fun nm ns mu hN => hPU.2.2.2.2.2.2.2.2.2.2.2.2.2.2.2.2.2.2.2.2.2.2.1 S nm ns mu _ _ _ hK9 hN) hk9)
    | 23, _ => exact j_tabIn (off := 1584) (tgt := 1628) cx dL_law_44 (by decide) (by decide) (by decide) (by decide) (l_endsIn hl0 cx hX hb0 hR9 ⟨by omega, hL⟩ hW (fun nm ns mu hN => hPU.2.2.2.2.2.2.2.2.2.2.2.2.2.2.2.2.2.2.2.2.2.2.2.1 S nm ns mu _ _ hK9 hN) hk9)
    | 24, _ => exact j_tabIn (off := 1640) (tgt := 1684) cx dL_law_44 (by decide) (by decide) (by decide) (by decide) (l_pass hl0 cx hX hb0 hR9 ⟨by omega, hL⟩ hW (fun nm ns mu hN => hPU.2.2.2.2.2.2.2.2.2.2.2.2.2.2.2.2.2.2.2.2.2.2.2.2.1 S nm ns mu _ _ hK9 hN) hk9)
    | 25, _ => exact j_tabIn (off := 1696) (tgt := 1740) cx dL_law_44 (by decide) (by decide) (by decide) (by decide) (l_time hl0 cx hX hb0 hR9 ⟨by omega, hL⟩ hW (fun nm ns mu hN k => hPU.2.2.2.2.2.2.2.2.2.2.2.2.2.2.2.2.2.2.2.2.2.2.2.2.2 S nm ns mu _ k hN) hk9)
    | 26, _ => exact j_tabIn (off := 1709) (tgt := 1753) cx dL_law_44 (by decide) (by decide) (by decide) (by decide) (l_pageShare hl0 cx hX hb0 hR9 ⟨by omega, hL⟩ hW (fun nm ns mu hN k => hPU.2.2.2.2.2.2.2.2.2.2.2.2.2.2.2.2.2.2.2.2.2.2.2.2.2 S nm ns mu _ k hN) hk9)
    | 27, _ => exact j_tabIn (off := 1775) (tgt := 1819) cx dL_law_44 (by decide) (by decide) (by decide) (by decide) (l_meanCharge hl0 cx hX hb0 hR9 ⟨by omega, hL⟩ hW (fun nm ns mu hN k => hPU.2.2.2.2.2.2.2.2.2.2.2.2.2.2.2.2.2.2.2.2.2.2.2.2.2 S nm ns mu _ k hN) hk9)
    | n + 28, hn => exact j_tabOut (tgt := 1884) cx dL_law_44 (Or.inr (by rw [nI_toInt (by omega)]; omega)) (by decide) (J.widen (k := 100 + 1170 * t + 20) (n := 1000 + 14000 * t + 300) (by omega) (by omega) (hk9 al sh S (hW.more (by omega))))
