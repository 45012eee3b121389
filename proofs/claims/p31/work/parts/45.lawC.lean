/-- the world behind an act -/
def WQ (Z : yL) (al0 : yAl) (M T : Nat) : yPost := fun v9 al9 sh9 S9 => v9 = some (.int 1) ∧ ∃ (ns : Nat) (mu : Nat → Nat), YC Z al9 sh9 3 ns mu ∧ yFree sh9 3 ns ∧ YK Z al9 sh9 ∧ al9 0 0 = al0 0 0 ∧ al9 40 0 = al0 40 0 ∧ IN S9 S9 ns mu M T
theorem J.lve {p : Program} {l : Launch} {e : Env} {R : Room} {s : State} {m : MethodId} {args : Array Value} {below : List Frame} {meth : Method} {c : Code} {nL : Nat} {Z : yL} {cells slots : Nat} {Q : State → Prop} {al : yAl} {sh : ySh} {S : yS} {pc : Nat} {lv lv' : List (Nat × Value)} {st : List Value} (h : lv = lv') (k : J p l e R s m args below meth c nL Z cells slots Q al sh S pc lv' st) : J p l e R s m args below meth c nL Z cells slots Q al sh S pc lv st := h ▸ k
theorem nI_40 {n : Nat} (h : n ≤ 40) : nI n = 40 ↔ n = 40 := by
  rw [show (40 : Int32) = nI 40 by decide]
  exact nI_6 (by omega) (by decide)
theorem p_logs {S S9 : yS} {ns : Nat} {mu : Nat → Nat} {M T u m : Nat} (h : IN S S ns mu M T) (hu : u < 10) (hz : ¬ (ns = 40 ∨ lOwns S (nI u) 0 ns = true)) (hm : m < 3) (h11 : S9 11 0 2 = nI (ns + 1)) (h20 : S9 20 m 5 = S 20 m 5 + 1) (h21 : ∀ j, S9 21 ns j = fSes (szero S 21 ns) ns (nI u) (S 0 0 9) 21 ns j) (h22 : ∀ j, S9 22 ns j = 0)
    (hS9 : ∀ a b j, a ≠ 11 → a ≠ 12 → ¬ ((a = 21 ∨ a = 22) ∧ b = ns) → ¬ (a = 20 ∧ b = m ∧ j = 5) → S9 a b j = S a b j) : IN (sup (sup (sup (sup (sup S9 45 0 ns (nI u)) 46 0 ns (nI u)) 47 0 ns (S9 40 0 13)) 48 0 ns (S9 40 0 13)) 40 0 3 ((nI ns) + 1)) (sup (sup (sup (sup (sup S9 45 0 ns (nI u)) 46 0 ns (nI u)) 47 0 ns (S9 40 0 13)) 48 0 ns (S9 40 0 13)) 40 0 3 ((nI ns) + 1)) (ns + 1) (fun i => if i = ns then m else mu i) M T := by
  have hn := h.ns40
  have hlt : ns < 40 := Nat.lt_of_le_of_ne hn (fun q => hz (Or.inl q))
  have hk : ∀ a, a ≠ 11 → a ≠ 12 → a ≠ 20 → a ≠ 21 → a ≠ 22 → S9 a = S a := fun a a1 a2 a3 a4 a5 => funext fun b => funext fun j => hS9 a b j a1 a2 (fun q => q.1.elim a4 a5) (fun q => a3 q.1)
  have e := o_in (X9 := S9 9) (X11 := S9 11) (X20 := S9 20) (X21 := S9 21) (X22 := S9 22) (m := m) (u := nI u) h hlt hm (vp_in_nI hu (by decide)) (fun i hi q1 q2 => hz (Or.inr ((lOwns_iff ns 0).mpr ⟨i, by omega, by omega, q2, q1⟩)))
    (by rw [hk 9 (by decide) (by decide) (by decide) (by decide) (by decide)]) h11 (fun b j q => hS9 20 b j (by decide) (by decide) (by omega) (fun z => q z.2)) h20 (fun b j q => hS9 21 b j (by decide) (by decide) (fun z => q z.2) (by omega))
    ⟨by rw [h21]; simp [fSes, sup], by rw [h21]; simp [fSes, sup], by rw [h21]; simp [fSes, sup], by rw [h21]; simp [fSes, sup], by rw [h21]; simp [fSes, sup]⟩
    (fun b j q => hS9 22 b j (by decide) (by decide) (fun z => q z.2) (by omega)) h22
  unfold IN
  simp (disch := decide) only [sup_s, sup_k]
  rw [hk 0 (by decide) (by decide) (by decide) (by decide) (by decide), hk 1 (by decide) (by decide) (by decide) (by decide) (by decide), hk 2 (by decide) (by decide) (by decide) (by decide) (by decide), hk 3 (by decide) (by decide) (by decide) (by decide) (by decide), hk 4 (by decide) (by decide) (by decide) (by decide) (by decide), hk 5 (by decide) (by decide) (by decide) (by decide) (by decide), hk 6 (by decide) (by decide) (by decide) (by decide) (by decide), hk 8 (by decide) (by decide) (by decide) (by decide) (by decide), hk 40 (by decide) (by decide) (by decide) (by decide) (by decide), hk 41 (by decide) (by decide) (by decide) (by decide) (by decide), hk 43 (by decide) (by decide) (by decide) (by decide) (by decide), hk 44 (by decide) (by decide) (by decide) (by decide) (by decide), hk 45 (by decide) (by decide) (by decide) (by decide) (by decide), hk 46 (by decide) (by decide) (by decide) (by decide) (by decide), hk 47 (by decide) (by decide) (by decide) (by decide) (by decide), hk 48 (by decide) (by decide) (by decide) (by decide) (by decide), hk 49 (by decide) (by decide) (by decide) (by decide) (by decide), hk 51 (by decide) (by decide) (by decide) (by decide) (by decide)]
  exact e
theorem inB_L_logs : ∀ w ∈ u_ws RX3 TX3 14, w ∈ wsL_logs := by decide +kernel
set_option maxHeartbeats 4000000 in
set_option maxRecDepth 100000 in
theorem c_L_logs {l : Launch} (hl0 : l.stackTraces = false) {Z : yL} {al : yAl} {sh : ySh} {S : yS} {ns : Nat} {mu : Nat → Nat} {M T : Nat} (hY : YC Z al sh 3 ns mu) (hK : YK Z al sh) (h : IN S S ns mu M T) {u : Nat} (hFr : yFree sh 3 ns) (hu : u < 10) : Ct l yL_logs wsL_logs ({ frames := 8, cells := 7, slots := 100, locals := 195 }) 7 100 Z [.ref (al 0 0), .ref (al 40 0), .int (nI u)] al sh S (WQ Z al M T) := by
  have hn40 := h.ns40
  refine Ct.ofH (lv := [(0, .ref (al 0 0)), (1, .ref (al 40 0)), (2, .int (nI u))]) (by decide) rfl (Nat.le_of_ble_eq_true rfl) rfl ?_
  intro p_ e_ s_ m_ below_ meth_ c_ cx hlk hr htb
  have loop : ∀ (k i : Nat) (v : Int32), i + k = ns → bOwV S (nI u) i v k = bI (ns = 40 ∨ lOwns S (nI u) 0 ns = true) → J p_ l e_ ({ frames := 8, cells := 7, slots := 100, locals := 195 }) s_ m_ (([.ref (al 0 0), .ref (al 40 0), .int (nI u)] : List Value).toArray) below_ meth_ c_ 5 Z 0 0 (MQ below_ (Qn Z (WQ Z al M T)) (([.ref (al 0 0), .ref (al 40 0), .int (nI u)] : List Value).toArray) s_ 7 100 (yF Z)) al sh S 18 [(0, .ref (al 0 0)), (1, .ref (al 40 0)), (2, .int (nI u)), (3, .int v), (4, .int (nI i))] [] := by
    intro k
    induction k with
    | zero =>
      intro i v hik he
      have hik2 : i = ns := by omega
      have hv : v = bI (ns = 40 ∨ lOwns S (nI u) 0 ns = true) := he
      subst hv
      rw [hik2]
      refine j_iload (j := 4) cx dL_logs_18 rfl (pc' := 20) rfl ?_
      refine j_aload_n (j := 1) cx dL_logs_20 rfl rfl (pc' := 21) rfl ?_
      refine j_getN (fk := 3) (v := .int (nI ns)) cx rfl hK.1 inB_L_logs (by decide) (by decide) rfl ((yV_i rfl).trans (congrArg Value.int h.b3)) rfl dL_logs_21 (pc' := 24) rfl ?_
      refine j_icmp_ge (tgt := 63) cx dL_logs_24 (by decide) (pc' := 27) rfl (fun _ => ?_) (fun hq9 => by first | exact absurd hq9 nI_gg | exact absurd nI_gg hq9)
      refine j_aload_n (j := 0) cx dL_logs_63 rfl rfl (pc' := 64) rfl ?_
      refine j_iload_n (j := 2) cx dL_logs_64 rfl rfl (pc' := 65) rfl ?_
      refine j_iconst (v := 0) cx dL_logs_65 (by decide) (pc' := 66) rfl ?_
      refine j_cVXP (cells1 := 7) (slots1 := 100) (As := [.int (nI u), .int 0]) (rest := []) cx (n_login hl0 hY h hFr hu) gL_logs_X2_logIn rfl rfl rfl 2 rfl (by decide +kernel) ⟨(Nat.le_of_ble_eq_true rfl), (Nat.le_of_ble_eq_true rfl)⟩ hY.1 rfl rfl rfl rfl (Nat.le_of_ble_eq_true rfl) dL_logs_66 ⟨(Nat.le_of_ble_eq_true rfl), (Nat.le_of_ble_eq_true rfl)⟩ (pc' := 69) rfl rfl rfl (fun E hE => ?_) (fun v9 al9 sh9 S9 h9 => ?_)
      · rcases hE with ⟨e9, z⟩ | ⟨e9, z1, z2⟩
        · subst e9
          refine jx_catch cx htb [] ⟨63, 99, 150, 93⟩ [⟨100, 149, 150, 93⟩, ⟨63, 99, 154, 95⟩, ⟨100, 149, 154, 95⟩] rfl (by decide) (fun z hz => by cases hz) rfl (by decide) (by decide +kernel) (fun q => ?_)
          refine j_astore (lv' := [(4, .ref q), (0, .ref (al 0 0)), (1, .ref (al 40 0)), (2, .int (nI u)), (3, .int (bI (ns = 40 ∨ lOwns S (nI u) 0 ns = true)))]) cx dL_logs_150 (by decide) rfl (pc' := 152) rfl ?_
          refine j_iload_n (j := 4) cx dL_logs_152 rfl rfl (pc' := 153) rfl ?_
          exact j_iret (ty := .boolean) cx hlk hr bI_z (Nat.le_of_ble_eq_true rfl) (Nat.le_of_ble_eq_true rfl) dL_logs_153 ⟨congrArg (fun z => some (Value.int z)) (bI_t z), ns, mu, hY, hFr, hK, rfl, rfl, h⟩
        · subst e9
          refine jx_catch cx htb [⟨63, 99, 150, 93⟩, ⟨100, 149, 150, 93⟩] ⟨63, 99, 154, 95⟩ [⟨100, 149, 154, 95⟩] rfl (by decide) (by intro z hz; simp only [List.mem_cons, List.not_mem_nil, or_false] at hz; rcases hz with rfl | rfl; exact ⟨by decide, "java/lang/IllegalStateException", by decide +kernel, by decide, by decide⟩; exact ⟨by decide, "java/lang/IllegalStateException", by decide +kernel, by decide, by decide⟩) rfl (by decide) (by decide +kernel) (fun q => ?_)
          refine j_astore (lv' := [(4, .ref q), (0, .ref (al 0 0)), (1, .ref (al 40 0)), (2, .int (nI u)), (3, .int (bI (ns = 40 ∨ lOwns S (nI u) 0 ns = true)))]) cx dL_logs_154 (by decide) rfl (pc' := 156) rfl ?_
          refine j_iload_n (j := 4) cx dL_logs_156 rfl rfl (pc' := 157) rfl ?_
          refine j_ifb_ne (tgt := 178) cx dL_logs_157 (by decide) (pc' := 160) rfl (fun hq9 => by first | exact absurd hq9 z1 | exact absurd z1 hq9) (fun _ => ?_)
          refine j_aload_n (j := 2) cx dL_logs_160 rfl rfl (pc' := 161) rfl ?_
          refine j_getN (fk := 0) (v := .ref (al 41 0)) cx rfl hK.1 inB_L_logs (by decide) (by decide) rfl (yV_r (k := (41, 0)) rfl) rfl dL_logs_161 (pc' := 164) rfl ?_
          refine j_aload_n (j := 2) cx dL_logs_164 rfl rfl (pc' := 165) rfl ?_
          refine j_getN (fk := 2) (v := .ref (al 44 0)) cx rfl hK.1 inB_L_logs (by decide) (by decide) rfl (yV_r (k := (44, 0)) rfl) rfl dL_logs_165 (pc' := 168) rfl ?_
          refine j_iload_n (j := 3) cx dL_logs_168 rfl rfl (pc' := 169) rfl ?_
          refine j_iald (v := S 44 0 u) cx hK.2.2.1 rfl (vp_in_nI hu (by decide)) (by rw [(nI_clamp (by omega))]) rfl dL_logs_169 (pc' := 170) rfl ?_
          refine j_iald (v := S 41 0 ((S 44 0 u).toNatClampNeg)) cx hK.2.1 rfl (h.bi.2.2.2 u hu) rfl rfl dL_logs_170 (pc' := 171) rfl ?_
          refine j_if_ne (tgt := 178) cx dL_logs_171 (by decide) (pc' := 174) rfl (fun hq9 => by first | exact absurd hq9 (i32_eq0 (by rw [← h.2.2.1 _ (ix_of (h.bi.2.2.2 u hu))]; exact (h.pos (ix_of (h.bi.2.2.2 u hu))).1) z2) | exact absurd (i32_eq0 (by rw [← h.2.2.1 _ (ix_of (h.bi.2.2.2 u hu))]; exact (h.pos (ix_of (h.bi.2.2.2 u hu))).1) z2) hq9) (fun _ => ?_)
          refine j_iconst (v := 1) cx dL_logs_174 (by decide) (pc' := 175) rfl ?_
          refine j_goto (tgt := 179) cx dL_logs_175 (by decide) ?_
          exact j_iret (ty := .boolean) cx hlk hr rfl (Nat.le_of_ble_eq_true rfl) (Nat.le_of_ble_eq_true rfl) dL_logs_179 ⟨rfl, ns, mu, hY, hFr, hK, rfl, rfl, h⟩
      obtain ⟨z1, z2, m9, -, hm2, -, e1, hY9, hF9, hk4, ha0, h11, h20, h21, h22, hS9⟩ := h9
      subst v9
      refine J.stk (st2 := [.int (nI ns)]) rfl ?_
      have hK9 : YK Z al9 sh9 := hK.to (fun a b hab => hk4 a b hab)
      have eb : al9 40 0 = al 40 0 := (hk4 40 0 (by decide)).1
      have hs9 : ∀ a, 40 ≤ a → S9 a = S a := fun a ha => funext fun b => funext fun j => hS9 a b j (by omega) (by omega) (by omega) (by omega)
      have hlt : ns < 40 := Nat.lt_of_le_of_ne hn40 (fun q => z1 (Or.inl q))
      refine J.lve (lv' := [(0, .ref (al9 0 0)), (1, .ref (al9 40 0)), (2, .int (nI u)), (3, .int (bI (ns = 40 ∨ lOwns S (nI u) 0 ns = true))), (4, .int (nI ns))]) (by rw [ha0, eb]) ?_
      refine j_istore (lv' := [(4, .int (nI ns)), (0, .ref (al9 0 0)), (1, .ref (al9 40 0)), (2, .int (nI u)), (3, .int (bI (ns = 40 ∨ lOwns S (nI u) 0 ns = true)))]) cx dL_logs_69 (by decide) rfl (pc' := 71) rfl ?_
      refine j_iload_n (j := 4) cx dL_logs_71 rfl rfl (pc' := 72) rfl ?_
      refine j_ifb_ne (tgt := 98) cx dL_logs_72 (by decide) (pc' := 75) rfl (fun hq9 => by first | exact absurd hq9 z1 | exact absurd z1 hq9) (fun _ => ?_)
      refine j_aload_n (j := 2) cx dL_logs_75 rfl rfl (pc' := 76) rfl ?_
      refine j_getN (fk := 0) (v := .ref (al9 41 0)) cx rfl hK9.1 inB_L_logs (by decide) (by decide) rfl (yV_r (k := (41, 0)) rfl) rfl dL_logs_76 (pc' := 79) rfl ?_
      refine j_aload_n (j := 2) cx dL_logs_79 rfl rfl (pc' := 80) rfl ?_
      refine j_getN (fk := 2) (v := .ref (al9 44 0)) cx rfl hK9.1 inB_L_logs (by decide) (by decide) rfl (yV_r (k := (44, 0)) rfl) rfl dL_logs_80 (pc' := 83) rfl ?_
      refine j_iload_n (j := 3) cx dL_logs_83 rfl rfl (pc' := 84) rfl ?_
      refine j_iald (v := S9 44 0 u) cx hK9.2.2.1 rfl (vp_in_nI hu (by decide)) (by rw [(nI_clamp (by omega))]) rfl dL_logs_84 (pc' := 85) rfl ?_
      refine j_iald (v := S9 41 0 ((S9 44 0 u).toNatClampNeg)) cx hK9.2.1 rfl (show vp_in (S9 44 0 u) 4 by rw [hs9 44 (by decide)]; exact h.bi.2.2.2 u hu) rfl rfl dL_logs_85 (pc' := 86) rfl ?_
      refine j_if_eq (tgt := 98) cx dL_logs_86 (by decide) (pc' := 89) rfl (fun hq9 => by first | exact absurd hq9 (show ¬ S9 41 0 (S9 44 0 u).toNatClampNeg = 0 by rw [hs9 41 (by decide), hs9 44 (by decide)]; intro q; exact z2 (by rw [q]; decide)) | exact absurd (show ¬ S9 41 0 (S9 44 0 u).toNatClampNeg = 0 by rw [hs9 41 (by decide), hs9 44 (by decide)]; intro q; exact z2 (by rw [q]; decide)) hq9) (fun _ => ?_)
      refine j_iload (j := 0) cx dL_logs_89 rfl (pc' := 91) rfl ?_
      refine j_aload_n (j := 2) cx dL_logs_91 rfl rfl (pc' := 92) rfl ?_
      refine j_getN (fk := 3) (v := .int (nI ns)) cx rfl hK9.1 inB_L_logs (by decide) (by decide) rfl ((yV_i rfl).trans (congrArg Value.int (show S9 40 0 3 = nI ns by rw [hs9 40 (by decide)]; exact h.b3))) rfl dL_logs_92 (pc' := 95) rfl ?_
      refine j_icmp_eq (tgt := 100) cx dL_logs_95 (by decide) (pc' := 98) rfl (fun _ => ?_) (fun hq9 => by first | exact absurd hq9 rfl | exact absurd rfl hq9)
      refine j_aload_n (j := 2) cx dL_logs_100 rfl rfl (pc' := 101) rfl ?_
      refine j_getN (fk := 4) (v := .ref (al9 45 0)) cx rfl hK9.1 inB_L_logs (by decide) (by decide) rfl (yV_r (k := (45, 0)) rfl) rfl dL_logs_101 (pc' := 104) rfl ?_
      refine j_iload (j := 0) cx dL_logs_104 rfl (pc' := 106) rfl ?_
      refine j_iload_n (j := 3) cx dL_logs_106 rfl rfl (pc' := 107) rfl ?_
      refine j_iast (jn := ns) cx hK9.2.2.2.1 rfl (vp_in_nI hlt (by decide)) (nI_clamp (by omega)) rfl dL_logs_107 (pc' := 108) rfl ?_
      refine j_aload_n (j := 2) cx dL_logs_108 rfl rfl (pc' := 109) rfl ?_
      refine j_getN (fk := 5) (v := .ref (al9 46 0)) cx rfl hK9.1 inB_L_logs (by decide) (by decide) rfl (yV_r (k := (46, 0)) rfl) rfl dL_logs_109 (pc' := 112) rfl ?_
      refine j_iload (j := 0) cx dL_logs_112 rfl (pc' := 114) rfl ?_
      refine j_iload_n (j := 3) cx dL_logs_114 rfl rfl (pc' := 115) rfl ?_
      refine j_iast (jn := ns) cx hK9.2.2.2.2.1 rfl (vp_in_nI hlt (by decide)) (nI_clamp (by omega)) rfl dL_logs_115 (pc' := 116) rfl ?_
      refine j_aload_n (j := 2) cx dL_logs_116 rfl rfl (pc' := 117) rfl ?_
      refine j_getN (fk := 6) (v := .ref (al9 47 0)) cx rfl hK9.1 inB_L_logs (by decide) (by decide) rfl (yV_r (k := (47, 0)) rfl) rfl dL_logs_117 (pc' := 120) rfl ?_
      refine j_iload (j := 0) cx dL_logs_120 rfl (pc' := 122) rfl ?_
      refine j_aload_n (j := 2) cx dL_logs_122 rfl rfl (pc' := 123) rfl ?_
      refine j_getN (fk := 13) (v := .int (S9 40 0 13)) cx rfl hK9.1 inB_L_logs (by decide) (by decide) rfl ((yV_i rfl).trans (congrArg Value.int (by simp [sup, bCharge_o, bSt_o, fTo_o, fCharge_o, fMove, fPrint, fEnd_o]))) rfl dL_logs_123 (pc' := 126) rfl ?_
      refine j_iast (jn := ns) cx hK9.2.2.2.2.2.1 rfl (vp_in_nI hlt (by decide)) (nI_clamp (by omega)) rfl dL_logs_126 (pc' := 127) rfl ?_
      refine j_aload_n (j := 2) cx dL_logs_127 rfl rfl (pc' := 128) rfl ?_
      refine j_getN (fk := 7) (v := .ref (al9 48 0)) cx rfl hK9.1 inB_L_logs (by decide) (by decide) rfl (yV_r (k := (48, 0)) rfl) rfl dL_logs_128 (pc' := 131) rfl ?_
      refine j_iload (j := 0) cx dL_logs_131 rfl (pc' := 133) rfl ?_
      refine j_aload_n (j := 2) cx dL_logs_133 rfl rfl (pc' := 134) rfl ?_
      refine j_getN (fk := 13) (v := .int (S9 40 0 13)) cx rfl hK9.1 inB_L_logs (by decide) (by decide) rfl ((yV_i rfl).trans (congrArg Value.int (by simp [sup, bCharge_o, bSt_o, fTo_o, fCharge_o, fMove, fPrint, fEnd_o]))) rfl dL_logs_134 (pc' := 137) rfl ?_
      refine j_iast (jn := ns) cx hK9.2.2.2.2.2.2.1 rfl (vp_in_nI hlt (by decide)) (nI_clamp (by omega)) rfl dL_logs_137 (pc' := 138) rfl ?_
      refine j_aload_n (j := 2) cx dL_logs_138 rfl rfl (pc' := 139) rfl ?_
      refine j_dup cx dL_logs_139 rfl (pc' := 140) rfl ?_
      refine j_getN (fk := 3) (v := .int (nI ns)) cx rfl hK9.1 inB_L_logs (by decide) (by decide) rfl ((yV_i rfl).trans (congrArg Value.int (by simp [sup, bCharge_o, bSt_o, fTo_o, fCharge_o, fMove, fPrint, fEnd_o, (show S9 40 0 3 = nI ns by rw [hs9 40 (by decide)]; exact h.b3)]))) rfl dL_logs_140 (pc' := 143) rfl ?_
      refine j_iconst (v := 1) cx dL_logs_143 (by decide) (pc' := 144) rfl ?_
      refine j_iadd cx dL_logs_144 (pc' := 145) rfl ?_
      refine j_putiN (fk := 3) cx rfl hK9.1 inB_L_logs (by decide) (by decide) rfl rfl (by decide +kernel) rfl rfl dL_logs_145 (pc' := 148) rfl ?_
      refine j_iconst (v := 1) cx dL_logs_148 (by decide) (pc' := 149) rfl ?_
      exact j_iret (ty := .boolean) cx hlk hr rfl (Nat.le_of_ble_eq_true rfl) (Nat.le_of_ble_eq_true rfl) dL_logs_149 ⟨rfl, ns + 1, (fun i => if i = ns then m9 else mu i), hY9, hF9, hK9, ha0, eb, p_logs h hu z1 hm2 h11 h20 h21 h22 hS9⟩
    | succ k ih =>
      intro i v hik he
      have hi : i < ns := by omega
      refine j_iload (j := 4) cx dL_logs_18 rfl (pc' := 20) rfl ?_
      refine j_aload_n (j := 1) cx dL_logs_20 rfl rfl (pc' := 21) rfl ?_
      refine j_getN (fk := 3) (v := .int (nI ns)) cx rfl hK.1 inB_L_logs (by decide) (by decide) rfl ((yV_i rfl).trans (congrArg Value.int h.b3)) rfl dL_logs_21 (pc' := 24) rfl ?_
      refine j_icmp_ge (tgt := 63) cx dL_logs_24 (by decide) (pc' := 27) rfl (fun hq9 => by first | exact absurd hq9 (nI_ge hi (by omega)) | exact absurd (nI_ge hi (by omega)) hq9) (fun _ => ?_)
      refine j_iload_n (j := 3) cx dL_logs_27 rfl rfl (pc' := 28) rfl ?_
      refine j_if_ne (tgt := 51) cx dL_logs_28 (by decide) (pc' := 31) rfl (fun h2 => ?_) (fun h2 => ?_)
      · refine j_iconst (v := 1) cx dL_logs_51 (by decide) (pc' := 52) rfl ?_
        refine j_goto (tgt := 56) cx dL_logs_52 (by decide) ?_
        refine j_istore_n (lv' := [(3, .int 1), (0, .ref (al 0 0)), (1, .ref (al 40 0)), (2, .int (nI u)), (4, .int (nI i))]) cx dL_logs_56 rfl (by decide) rfl (pc' := 57) rfl ?_
        refine j_iinc (j := 4) (v := nI (i + 1)) (lv' := [(4, .int (nI (i + 1))), (3, .int 1), (0, .ref (al 0 0)), (1, .ref (al 40 0)), (2, .int (nI u))]) cx dL_logs_57 rfl (nI_1 i) (by decide) rfl (pc' := 60) rfl ?_
        refine j_goto (tgt := 18) cx dL_logs_60 (by decide) ?_
        exact J.sub [2, 3, 4, 1, 0] rfl (ih (i + 1) _ (by omega) (by rw [← he]; simp [bOwV, *]))
      · refine j_aload_n (j := 1) cx dL_logs_31 rfl rfl (pc' := 32) rfl ?_
        refine j_iload (j := 4) cx dL_logs_32 rfl (pc' := 34) rfl ?_
        refine j_cVR (cells1 := 0) (slots1 := 0) (st1 := [.int (bI (S 49 0 i = 0))]) (As := [.int (nI i)]) (rest := []) cx (c_X3_isLive hK (by omega)) gL_logs_X3_isLive rfl rfl rfl 1 rfl (by decide +kernel) ⟨Nat.le_of_ble_eq_true rfl, Nat.le_of_ble_eq_true rfl⟩ hK.1 rfl rfl rfl rfl (Nat.le_of_ble_eq_true rfl) dL_logs_34 ⟨(Nat.le_of_ble_eq_true rfl), (Nat.le_of_ble_eq_true rfl)⟩ (pc' := 37) rfl rfl rfl rfl ?_
        refine j_ifb_eq (tgt := 55) cx dL_logs_37 (by decide) (pc' := 40) rfl (fun h4 => ?_) (fun h4 => ?_)
        · refine j_iconst (v := 0) cx dL_logs_55 (by decide) (pc' := 56) rfl ?_
          refine j_istore_n (lv' := [(3, .int 0), (0, .ref (al 0 0)), (1, .ref (al 40 0)), (2, .int (nI u)), (4, .int (nI i))]) cx dL_logs_56 rfl (by decide) rfl (pc' := 57) rfl ?_
          refine j_iinc (j := 4) (v := nI (i + 1)) (lv' := [(4, .int (nI (i + 1))), (3, .int 0), (0, .ref (al 0 0)), (1, .ref (al 40 0)), (2, .int (nI u))]) cx dL_logs_57 rfl (nI_1 i) (by decide) rfl (pc' := 60) rfl ?_
          refine j_goto (tgt := 18) cx dL_logs_60 (by decide) ?_
          exact J.sub [2, 3, 4, 1, 0] rfl (ih (i + 1) _ (by omega) (by rw [← he]; simp [bOwV, *]))
        · refine j_aload_n (j := 1) cx dL_logs_40 rfl rfl (pc' := 41) rfl ?_
          refine j_getN (fk := 4) (v := .ref (al 45 0)) cx rfl hK.1 inB_L_logs (by decide) (by decide) rfl (yV_r (k := (45, 0)) rfl) rfl dL_logs_41 (pc' := 44) rfl ?_
          refine j_iload (j := 4) cx dL_logs_44 rfl (pc' := 46) rfl ?_
          refine j_iald (v := S 45 0 i) cx hK.2.2.2.1 rfl (vp_in_nI (by omega) (by decide)) (by rw [(nI_clamp (by omega))]) rfl dL_logs_46 (pc' := 47) rfl ?_
          refine j_iload_n (j := 2) cx dL_logs_47 rfl rfl (pc' := 48) rfl ?_
          refine j_icmp_ne (tgt := 55) cx dL_logs_48 (by decide) (pc' := 51) rfl (fun h5 => ?_) (fun h5 => ?_)
          · refine j_iconst (v := 0) cx dL_logs_55 (by decide) (pc' := 56) rfl ?_
            refine j_istore_n (lv' := [(3, .int 0), (0, .ref (al 0 0)), (1, .ref (al 40 0)), (2, .int (nI u)), (4, .int (nI i))]) cx dL_logs_56 rfl (by decide) rfl (pc' := 57) rfl ?_
            refine j_iinc (j := 4) (v := nI (i + 1)) (lv' := [(4, .int (nI (i + 1))), (3, .int 0), (0, .ref (al 0 0)), (1, .ref (al 40 0)), (2, .int (nI u))]) cx dL_logs_57 rfl (nI_1 i) (by decide) rfl (pc' := 60) rfl ?_
            refine j_goto (tgt := 18) cx dL_logs_60 (by decide) ?_
            exact J.sub [2, 3, 4, 1, 0] rfl (ih (i + 1) _ (by omega) (by rw [← he]; simp [bOwV, *]))
          · refine j_iconst (v := 1) cx dL_logs_51 (by decide) (pc' := 52) rfl ?_
            refine j_goto (tgt := 56) cx dL_logs_52 (by decide) ?_
            refine j_istore_n (lv' := [(3, .int 1), (0, .ref (al 0 0)), (1, .ref (al 40 0)), (2, .int (nI u)), (4, .int (nI i))]) cx dL_logs_56 rfl (by decide) rfl (pc' := 57) rfl ?_
            refine j_iinc (j := 4) (v := nI (i + 1)) (lv' := [(4, .int (nI (i + 1))), (3, .int 1), (0, .ref (al 0 0)), (1, .ref (al 40 0)), (2, .int (nI u))]) cx dL_logs_57 rfl (nI_1 i) (by decide) rfl (pc' := 60) rfl ?_
            refine j_goto (tgt := 18) cx dL_logs_60 (by decide) ?_
            exact J.sub [2, 3, 4, 1, 0] rfl (ih (i + 1) _ (by omega) (by rw [← he]; simp [bOwV, *]))
  refine j_aload_n (j := 1) cx dL_logs_0 rfl rfl (pc' := 1) rfl ?_
  refine j_getN (fk := 3) (v := .int (nI ns)) cx rfl hK.1 inB_L_logs (by decide) (by decide) rfl ((yV_i rfl).trans (congrArg Value.int h.b3)) rfl dL_logs_1 (pc' := 4) rfl ?_
  refine j_bipush (v := 40) cx dL_logs_4 (by decide) (pc' := 6) rfl ?_
  refine j_icmp_ne (tgt := 13) cx dL_logs_6 (by decide) (pc' := 9) rfl (fun h1 => ?_) (fun h1 => ?_)
  · refine j_iconst (v := 0) cx dL_logs_13 (by decide) (pc' := 14) rfl ?_
    refine j_istore_n (lv' := [(3, .int 0), (0, .ref (al 0 0)), (1, .ref (al 40 0)), (2, .int (nI u))]) cx dL_logs_14 rfl (by decide) rfl (pc' := 15) rfl ?_
    refine j_iconst (v := 0) cx dL_logs_15 (by decide) (pc' := 16) rfl ?_
    refine j_istore (lv' := [(4, .int 0), (3, .int 0), (0, .ref (al 0 0)), (1, .ref (al 40 0)), (2, .int (nI u))]) cx dL_logs_16 (by decide) rfl (pc' := 18) rfl ?_
    exact J.sub [2, 3, 4, 1, 0] rfl (loop ns 0 _ (by omega) (h.owns (fun q9 => h1 ((nI_40 hn40).mpr q9))))
  · refine j_iconst (v := 1) cx dL_logs_9 (by decide) (pc' := 10) rfl ?_
    refine j_goto (tgt := 14) cx dL_logs_10 (by decide) ?_
    refine j_istore_n (lv' := [(3, .int 1), (0, .ref (al 0 0)), (1, .ref (al 40 0)), (2, .int (nI u))]) cx dL_logs_14 rfl (by decide) rfl (pc' := 15) rfl ?_
    refine j_iconst (v := 0) cx dL_logs_15 (by decide) (pc' := 16) rfl ?_
    refine j_istore (lv' := [(4, .int 0), (3, .int 1), (0, .ref (al 0 0)), (1, .ref (al 40 0)), (2, .int (nI u))]) cx dL_logs_16 (by decide) rfl (pc' := 18) rfl ?_
    exact J.sub [2, 3, 4, 1, 0] rfl (loop ns 0 _ (by omega) (by rw [bOwV_1, bI_t (Or.inl ((nI_40 hn40).mp h1))]))
theorem m1_toInt {L N : Nat} (h : L < N) (hN : N ≤ 60) : 1 ≤ ((1 : Int32) + nI L).toInt ∧ ((1 : Int32) + nI L).toInt ≤ N := by
  rw [show (1 : Int32) + nI L = nI (L + 1) by rw [Int32.add_comm]; exact nI_1 L, nI_toInt (by omega)]
  omega
theorem one_nI (L : Nat) : (1 : Int32) + nI L = nI (L + 1) := by rw [Int32.add_comm]; exact nI_1 L
theorem ymax_1 {n : Nat} (h : n ≤ 40) : ymax 1 (nI n) = nI (max 1 n) := by
  unfold ymax
  by_cases q : 1 < n
  · rw [if_pos (by rw [show (1 : Int32) = nI 1 by decide]; exact nI_lt q (by omega)), Nat.max_eq_right (by omega)]
  · rw [if_neg (by rw [show (1 : Int32) = nI 1 by decide]; exact nI_nlt (by omega) (by decide)), Nat.max_eq_left (by omega)]
    decide
theorem IN.bp {S : yS} {ns : Nat} {mu : Nat → Nat} {M T : Nat} (h : IN S S ns mu M T) (k : Nat) : IN (bPass ns S k) S ns mu M T := by
  have e1 := bPass_mix (ns := ns) k S S
  rw [mix_self] at e1
  rw [e1]
  unfold IN
  simp (disch := decide) only [mix_lo, mix_hi]
  exact h
theorem inB_L_acts : ∀ w ∈ u_ws RX3 TX3 14, w ∈ wsL_acts := by decide +kernel
set_option maxHeartbeats 4000000 in
set_option maxRecDepth 100000 in
theorem c_L_acts {l : Launch} (hl0 : l.stackTraces = false) {Z : yL} {al : yAl} {sh : ySh} {S : yS} {ns : Nat} {mu : Nat → Nat} {M T : Nat} (hY : YC Z al sh 3 ns mu) (hK : YK Z al sh) (h : IN S S ns mu M T) {v : Int32} (hFr : yFree sh 3 ns) (hM9 : M ≤ 40000) (hT9 : T ≤ 3000) : Ct l yL_acts wsL_acts ({ frames := 10, cells := 7, slots := 100, locals := 219 }) 7 100 Z [.ref (al 0 0), .ref (al 40 0), .int v] al sh S (WQ Z al (M + 60) (T + 12)) := by
  have hn40 := h.ns40
  refine Ct.of (lv := [(0, .ref (al 0 0)), (1, .ref (al 40 0)), (2, .int v)]) (by decide) rfl (Nat.le_of_ble_eq_true rfl) rfl ?_
  intro p_ e_ s_ m_ below_ meth_ c_ cx hlk hr hnm9
  refine j_iload_n (j := 2) cx dL_acts_0 rfl rfl (pc' := 1) rfl ?_
  refine j_bipush (v := 14) cx dL_acts_1 (by decide) (pc' := 3) rfl ?_
  refine j_cSR (cells1 := 0) (slots1 := 0) (st1 := [.int (nI (lwN v 14))]) (As := [.int v, .int 14]) (rest := []) cx (c_L_low (by decide) (by decide) (by decide)) gL_acts_L_low rfl rfl rfl 2 rfl (by decide +kernel) ⟨Nat.le_of_ble_eq_true rfl, Nat.le_of_ble_eq_true rfl⟩ rfl (Nat.le_of_ble_eq_true rfl) dL_acts_3 ⟨(Nat.le_of_ble_eq_true rfl), (Nat.le_of_ble_eq_true rfl)⟩ (pc' := 6) rfl rfl rfl rfl ?_
  refine j_istore_n (lv' := [(3, .int (nI (lwN v 14))), (0, .ref (al 0 0)), (1, .ref (al 40 0)), (2, .int v)]) cx dL_acts_6 rfl (by decide) rfl (pc' := 7) rfl ?_
  refine j_iload_n (j := 3) cx dL_acts_7 rfl rfl (pc' := 8) rfl ?_
  refine j_iconst (v := 4) cx dL_acts_8 (by decide) (pc' := 9) rfl ?_
  refine j_ishr cx dL_acts_9 (pc' := 10) rfl ?_
  refine j_iconst (v := 1) cx dL_acts_10 (by decide) (pc' := 11) rfl ?_
  refine j_aload_n (j := 2) cx dL_acts_11 rfl rfl (pc' := 12) rfl ?_
  refine j_getN (fk := 3) (v := .int (nI ns)) cx rfl hK.1 inB_L_acts (by decide) (by decide) rfl ((yV_i rfl).trans (congrArg Value.int h.b3)) rfl dL_acts_12 (pc' := 15) rfl ?_
  refine j_mmax cx (by decide +kernel) (by decide +kernel) (by decide +kernel) (by decide +kernel) dL_acts_15 (Nat.le_of_ble_eq_true rfl) (Nat.le_of_ble_eq_true rfl) (Nat.le_of_ble_eq_true rfl) (Nat.le_of_ble_eq_true rfl) (pc' := 18) rfl ?_
  refine j_cSR (cells1 := 0) (slots1 := 0) (st1 := [.int (nI (lwN (v >>> (4 &&& 31)) (max 1 ns)))]) (As := [.int (v >>> (4 &&& 31)), .int (ymax 1 (nI ns))]) (rest := []) cx (c_L_low (ymax_1 hn40) (by omega) (by omega)) gL_acts_L_low rfl rfl rfl 2 rfl (by decide +kernel) ⟨Nat.le_of_ble_eq_true rfl, Nat.le_of_ble_eq_true rfl⟩ rfl (Nat.le_of_ble_eq_true rfl) dL_acts_18 ⟨(Nat.le_of_ble_eq_true rfl), (Nat.le_of_ble_eq_true rfl)⟩ (pc' := 21) rfl rfl rfl rfl ?_
  refine j_istore (lv' := [(4, .int (nI (lwN (v >>> (4 &&& 31)) (max 1 ns)))), (3, .int (nI (lwN v 14))), (0, .ref (al 0 0)), (1, .ref (al 40 0)), (2, .int v)]) cx dL_acts_21 (by decide) rfl (pc' := 23) rfl ?_
  refine j_iload_n (j := 4) cx dL_acts_23 rfl rfl (pc' := 24) rfl ?_
  refine j_iconst (v := 4) cx dL_acts_24 (by decide) (pc' := 25) rfl ?_
  refine j_ishr cx dL_acts_25 (pc' := 26) rfl ?_
  refine j_iconst (v := 4) cx dL_acts_26 (by decide) (pc' := 27) rfl ?_
  refine j_cSR (cells1 := 0) (slots1 := 0) (st1 := [.int (nI (lwN (v >>> (4 &&& 31)) 4))]) (As := [.int (v >>> (4 &&& 31)), .int 4]) (rest := []) cx (c_L_low (by decide) (by decide) (by decide)) gL_acts_L_low rfl rfl rfl 2 rfl (by decide +kernel) ⟨Nat.le_of_ble_eq_true rfl, Nat.le_of_ble_eq_true rfl⟩ rfl (Nat.le_of_ble_eq_true rfl) dL_acts_27 ⟨(Nat.le_of_ble_eq_true rfl), (Nat.le_of_ble_eq_true rfl)⟩ (pc' := 30) rfl rfl rfl rfl ?_
  refine j_istore (lv' := [(5, .int (nI (lwN (v >>> (4 &&& 31)) 4))), (4, .int (nI (lwN (v >>> (4 &&& 31)) (max 1 ns)))), (3, .int (nI (lwN v 14))), (0, .ref (al 0 0)), (1, .ref (al 40 0)), (2, .int v)]) cx dL_acts_30 (by decide) rfl (pc' := 32) rfl ?_
  refine j_iload (j := 0) cx dL_acts_32 rfl (pc' := 34) rfl ?_
  refine j_iconst (v := 1) cx dL_acts_34 (by decide) (pc' := 35) rfl ?_
  refine j_iadd cx dL_acts_35 (pc' := 36) rfl ?_
  refine j_iload_n (j := 5) cx dL_acts_36 rfl rfl (pc' := 37) rfl ?_
  refine j_bipush (v := 6) cx dL_acts_37 (by decide) (pc' := 39) rfl ?_
  refine j_ishr cx dL_acts_39 (pc' := 40) rfl ?_
  refine j_iconst (v := 3) cx dL_acts_40 (by decide) (pc' := 41) rfl ?_
  refine j_cSR (cells1 := 0) (slots1 := 0) (st1 := [.int (nI (lwN (v >>> (6 &&& 31)) 3)), .int ((nI (lwN (v >>> (4 &&& 31)) 4)) + 1)]) (As := [.int (v >>> (6 &&& 31)), .int 3]) (rest := [.int ((nI (lwN (v >>> (4 &&& 31)) 4)) + 1)]) cx (c_L_low (by decide) (by decide) (by decide)) gL_acts_L_low rfl rfl rfl 2 rfl (by decide +kernel) ⟨Nat.le_of_ble_eq_true rfl, Nat.le_of_ble_eq_true rfl⟩ rfl (Nat.le_of_ble_eq_true rfl) dL_acts_41 ⟨(Nat.le_of_ble_eq_true rfl), (Nat.le_of_ble_eq_true rfl)⟩ (pc' := 44) rfl rfl rfl rfl ?_
  refine j_iadd cx dL_acts_44 (pc' := 45) rfl ?_
  refine j_iconst (v := 4) cx dL_acts_45 (by decide) (pc' := 46) rfl ?_
  refine j_irem cx (a := (lwN (v >>> (4 &&& 31)) 4 + 1 + lwN (v >>> (6 &&& 31)) 3)) (d9 := 4) (by rw [nI_1, nI_add]) (by decide) (by have q1 := lwN_lt (v := (v >>> (4 &&& 31))) (d := 4) (by decide); have q2 := lwN_lt (v := (v >>> (6 &&& 31))) (d := 3) (by decide); omega) (by decide) (by decide) dL_acts_46 (pc' := 47) rfl ?_
  refine j_istore (lv' := [(6, .int (nI ((lwN (v >>> (4 &&& 31)) 4 + 1 + lwN (v >>> (6 &&& 31)) 3) % 4))), (5, .int (nI (lwN (v >>> (4 &&& 31)) 4))), (4, .int (nI (lwN (v >>> (4 &&& 31)) (max 1 ns)))), (3, .int (nI (lwN v 14))), (0, .ref (al 0 0)), (1, .ref (al 40 0)), (2, .int v)]) cx dL_acts_47 (by decide) rfl (pc' := 49) rfl ?_
  refine j_iload_n (j := 6) cx dL_acts_49 rfl rfl (pc' := 50) rfl ?_
  refine j_bipush (v := 10) cx dL_acts_50 (by decide) (pc' := 52) rfl ?_
  refine j_ishr cx dL_acts_52 (pc' := 53) rfl ?_
  refine j_bipush (v := 10) cx dL_acts_53 (by decide) (pc' := 55) rfl ?_
  refine j_cSR (cells1 := 0) (slots1 := 0) (st1 := [.int (nI (lwN (v >>> (10 &&& 31)) 10))]) (As := [.int (v >>> (10 &&& 31)), .int 10]) (rest := []) cx (c_L_low (by decide) (by decide) (by decide)) gL_acts_L_low rfl rfl rfl 2 rfl (by decide +kernel) ⟨Nat.le_of_ble_eq_true rfl, Nat.le_of_ble_eq_true rfl⟩ rfl (Nat.le_of_ble_eq_true rfl) dL_acts_55 ⟨(Nat.le_of_ble_eq_true rfl), (Nat.le_of_ble_eq_true rfl)⟩ (pc' := 58) rfl rfl rfl rfl ?_
  refine j_istore (lv' := [(7, .int (nI (lwN (v >>> (10 &&& 31)) 10))), (6, .int (nI ((lwN (v >>> (4 &&& 31)) 4 + 1 + lwN (v >>> (6 &&& 31)) 3) % 4))), (5, .int (nI (lwN (v >>> (4 &&& 31)) 4))), (4, .int (nI (lwN (v >>> (4 &&& 31)) (max 1 ns)))), (3, .int (nI (lwN v 14))), (0, .ref (al 0 0)), (1, .ref (al 40 0)), (2, .int v)]) cx dL_acts_58 (by decide) rfl (pc' := 60) rfl ?_
  obtain ⟨b9, eb9⟩ : ∃ b9, (lwN (v >>> (4 &&& 31)) 4 + 1 + lwN (v >>> (6 &&& 31)) 3) % 4 = b9 := ⟨_, rfl⟩
  obtain ⟨a9, ea9⟩ : ∃ a9, lwN (v >>> (4 &&& 31)) 4 = a9 := ⟨_, rfl⟩
  have ha9 : a9 < 4 := by rw [← ea9]; exact lwN_lt (by decide)
  have hb9 : b9 < 4 := by rw [← eb9]; exact Nat.mod_lt _ (by decide)
  have hab9 : a9 ≠ b9 := by have q := lwN_lt (v := (v >>> (6 &&& 31))) (d := 3) (by decide); rw [ea9] at eb9; omega
  obtain ⟨w9, ew9⟩ : ∃ w9, lwN v 14 = w9 := ⟨_, rfl⟩
  obtain ⟨u9, eu9⟩ : ∃ u9, lwN (v >>> (10 &&& 31)) 10 = u9 := ⟨_, rfl⟩
  have hu9 : u9 < 10 := by rw [← eu9]; exact lwN_lt (by decide)
  obtain ⟨s9, es9⟩ : ∃ s9, lwN (v >>> (4 &&& 31)) (max 1 ns) = s9 := ⟨_, rfl⟩
  have lt_s9 : ¬ nI ns = 0 → s9 < ns := fun q => by have q1 : ns ≠ 0 := fun z => q (by rw [z]; rfl); have q2 := lwN_lt (v := (v >>> (4 &&& 31))) (d := max 1 ns) (by omega); rw [es9] at q2; omega
  refine J.lve (lv' := [(7, .int (nI u9)), (6, .int (nI b9)), (5, .int (nI a9)), (4, .int (nI s9)), (3, .int (nI w9)), (0, .ref (al 0 0)), (1, .ref (al 40 0)), (2, .int v)]) (by rw [ew9, es9, eb9, ea9, eu9]) ?_
  refine j_iload_n (j := 4) cx dL_acts_60 rfl rfl (pc' := 61) rfl ?_
  refine j_iconst (v := 2) cx dL_acts_61 (by decide) (pc' := 62) rfl ?_
  refine j_icmp_ge (tgt := 119) cx dL_acts_62 (by decide) (pc' := 65) rfl (fun h6 => ?_) (fun h6 => ?_)
  · refine j_iload_n (j := 4) cx dL_acts_119 rfl rfl (pc' := 120) rfl ?_
    refine j_iconst (v := 2) cx dL_acts_120 (by decide) (pc' := 121) rfl ?_
    refine j_icmp_ne (tgt := 145) cx dL_acts_121 (by decide) (pc' := 124) rfl (fun h7 => ?_) (fun h7 => ?_)
    · refine j_iload_n (j := 4) cx dL_acts_145 rfl rfl (pc' := 146) rfl ?_
      refine j_iconst (v := 3) cx dL_acts_146 (by decide) (pc' := 147) rfl ?_
      refine j_icmp_ne (tgt := 171) cx dL_acts_147 (by decide) (pc' := 150) rfl (fun h8 => ?_) (fun h8 => ?_)
      · refine j_iload_n (j := 4) cx dL_acts_171 rfl rfl (pc' := 172) rfl ?_
        refine j_iconst (v := 4) cx dL_acts_172 (by decide) (pc' := 173) rfl ?_
        refine j_icmp_ne (tgt := 213) cx dL_acts_173 (by decide) (pc' := 176) rfl (fun h9 => ?_) (fun h9 => ?_)
        · refine j_iload_n (j := 4) cx dL_acts_213 rfl rfl (pc' := 214) rfl ?_
          refine j_bipush (v := 8) cx dL_acts_214 (by decide) (pc' := 216) rfl ?_
          refine j_icmp_lt (tgt := 226) cx dL_acts_216 (by decide) (pc' := 219) rfl (fun h10 => ?_) (fun h10 => ?_)
          · refine j_aload_n (j := 5) cx dL_acts_226 rfl rfl (pc' := 227) rfl ?_
            refine j_aload_n (j := 6) cx dL_acts_227 rfl rfl (pc' := 228) rfl ?_
            refine j_iload (j := 0) cx dL_acts_228 rfl (pc' := 230) rfl ?_
            refine j_cSW (cells1 := 7) (slots1 := 100) (As := [.ref (al 0 0), .ref (al 40 0), .int (nI u9)]) (rest := []) cx (c_L_logs hl0 hY hK h hFr hu9) gL_acts_L_logs rfl rfl rfl 3 rfl (by decide +kernel) ⟨Nat.le_of_ble_eq_true rfl, Nat.le_of_ble_eq_true rfl⟩ rfl (Nat.le_of_ble_eq_true rfl) dL_acts_230 ⟨(Nat.le_of_ble_eq_true rfl), (Nat.le_of_ble_eq_true rfl)⟩ (pc' := 233) rfl rfl rfl (fun v9 al9 sh9 S9 h9 => ?_)
            obtain ⟨e1, h9⟩ := h9
            subst v9
            refine J.stk (st2 := [.int 1]) rfl ?_
            exact j_iret (ty := .boolean) cx hlk hr rfl (Nat.le_of_ble_eq_true rfl) (Nat.le_of_ble_eq_true rfl) dL_acts_233 (by obtain ⟨n1, m1, b1, b2, b3, b4, b5, b6⟩ := h9; exact ⟨rfl, n1, m1, b1, b2, b3, b4, b5, b6.weak (by omega) (by omega)⟩)
          · refine j_aload_n (j := 6) cx dL_acts_219 rfl rfl (pc' := 220) rfl ?_
            refine j_getN (fk := 3) (v := .int (nI ns)) cx rfl hK.1 inB_L_acts (by decide) (by decide) rfl ((yV_i rfl).trans (congrArg Value.int h.b3)) rfl dL_acts_220 (pc' := 223) rfl ?_
            refine j_if_ne (tgt := 234) cx dL_acts_223 (by decide) (pc' := 226) rfl (fun h11 => ?_) (fun h11 => ?_)
            · refine j_iload_n (j := 4) cx dL_acts_234 rfl rfl (pc' := 235) rfl ?_
              refine j_bipush (v := 10) cx dL_acts_235 (by decide) (pc' := 237) rfl ?_
              refine j_icmp_ge (tgt := 250) cx dL_acts_237 (by decide) (pc' := 240) rfl (fun h12 => ?_) (fun h12 => ?_)
              · refine j_iload_n (j := 4) cx dL_acts_250 rfl rfl (pc' := 251) rfl ?_
                refine j_bipush (v := 10) cx dL_acts_251 (by decide) (pc' := 253) rfl ?_
                refine j_icmp_ne (tgt := 275) cx dL_acts_253 (by decide) (pc' := 256) rfl (fun h13 => ?_) (fun h13 => ?_)
                · refine j_iload_n (j := 4) cx dL_acts_275 rfl rfl (pc' := 276) rfl ?_
                  refine j_bipush (v := 11) cx dL_acts_276 (by decide) (pc' := 278) rfl ?_
                  refine j_icmp_ne (tgt := 305) cx dL_acts_278 (by decide) (pc' := 281) rfl (fun h14 => ?_) (fun h14 => ?_)
                  · refine j_iconst (v := 1) cx dL_acts_305 (by decide) (pc' := 306) rfl ?_
                    refine j_iload_n (j := 7) cx dL_acts_306 rfl rfl (pc' := 307) rfl ?_
                    refine j_iconst (v := 4) cx dL_acts_307 (by decide) (pc' := 308) rfl ?_
                    refine j_ishr cx dL_acts_308 (pc' := 309) rfl ?_
                    refine j_bipush (v := 12) cx dL_acts_309 (by decide) (pc' := 311) rfl ?_
                    refine j_cSR (cells1 := 0) (slots1 := 0) (st1 := [.int (nI (lwN (v >>> (4 &&& 31)) 12)), .int 1]) (As := [.int (v >>> (4 &&& 31)), .int 12]) (rest := [.int 1]) cx (c_L_low (by decide) (by decide) (by decide)) gL_acts_L_low rfl rfl rfl 2 rfl (by decide +kernel) ⟨Nat.le_of_ble_eq_true rfl, Nat.le_of_ble_eq_true rfl⟩ rfl (Nat.le_of_ble_eq_true rfl) dL_acts_311 ⟨(Nat.le_of_ble_eq_true rfl), (Nat.le_of_ble_eq_true rfl)⟩ (pc' := 314) rfl rfl rfl rfl ?_
                    refine j_iadd cx dL_acts_314 (pc' := 315) rfl ?_
                    refine j_istore (lv' := [(8, .int ((1 : Int32) + (nI (lwN (v >>> (4 &&& 31)) 12)))), (7, .int (nI u9)), (6, .int (nI b9)), (5, .int (nI a9)), (4, .int (nI s9)), (3, .int (nI w9)), (0, .ref (al 0 0)), (1, .ref (al 40 0)), (2, .int v)]) cx dL_acts_315 (by decide) rfl (pc' := 317) rfl ?_
                    refine j_iconst (v := 0) cx dL_acts_317 (by decide) (pc' := 318) rfl ?_
                    refine j_istore (lv' := [(9, .int 0), (8, .int ((1 : Int32) + (nI (lwN (v >>> (4 &&& 31)) 12)))), (7, .int (nI u9)), (6, .int (nI b9)), (5, .int (nI a9)), (4, .int (nI s9)), (3, .int (nI w9)), (0, .ref (al 0 0)), (1, .ref (al 40 0)), (2, .int v)]) cx dL_acts_318 (by decide) rfl (pc' := 320) rfl ?_
                    refine j_iconst (v := 0) cx dL_acts_320 (by decide) (pc' := 321) rfl ?_
                    refine j_istore (lv' := [(10, .int 0), (9, .int 0), (8, .int ((1 : Int32) + (nI (lwN (v >>> (4 &&& 31)) 12)))), (7, .int (nI u9)), (6, .int (nI b9)), (5, .int (nI a9)), (4, .int (nI s9)), (3, .int (nI w9)), (0, .ref (al 0 0)), (1, .ref (al 40 0)), (2, .int v)]) cx dL_acts_321 (by decide) rfl (pc' := 323) rfl ?_
                    obtain ⟨K9, eK9⟩ : ∃ K9, (lwN (v >>> (4 &&& 31)) 12 + 1) = K9 := ⟨_, rfl⟩
                    have hK9 : 1 ≤ K9 ∧ K9 ≤ 12 := by have q := lwN_lt (v := (v >>> (4 &&& 31))) (d := 12) (by decide); omega
                    have loop : ∀ (k j : Nat) (U : yS) (a : Int32), j + k = K9 → BI U ns → bPass ns U k = bPass ns S K9 → bEnd ns U a k = bEnd ns S 0 K9 → J p_ l e_ ({ frames := 10, cells := 7, slots := 100, locals := 219 }) s_ m_ (([.ref (al 0 0), .ref (al 40 0), .int v] : List Value).toArray) below_ meth_ c_ 11 Z 0 0 (MQ below_ (Qn Z (WQ Z al (M + 60) (T + 12))) (([.ref (al 0 0), .ref (al 40 0), .int v] : List Value).toArray) s_ 7 100 (yF Z)) al sh U 323 [(0, .ref (al 0 0)), (1, .ref (al 40 0)), (8, .int (nI K9)), (9, .int a), (10, .int (nI j))] [] := by
                      intro k
                      induction k with
                      | zero =>
                        intro j U a hjk hB9 he he2
                        have hjk2 : j = K9 := by omega
                        have hU : U = bPass ns S K9 := he
                        have ha : a = bEnd ns S 0 K9 := he2
                        subst hU ha
                        rw [hjk2]
                        refine j_iload (j := 4) cx dL_acts_323 rfl (pc' := 325) rfl ?_
                        refine j_iload (j := 2) cx dL_acts_325 rfl (pc' := 327) rfl ?_
                        refine j_icmp_ge (tgt := 345) cx dL_acts_327 (by decide) (pc' := 330) rfl (fun _ => ?_) (fun hq9 => by first | exact absurd hq9 nI_gg | exact absurd nI_gg hq9)
                        refine j_aload_n (j := 0) cx dL_acts_345 rfl rfl (pc' := 346) rfl ?_
                        refine j_iload (j := 2) cx dL_acts_346 rfl (pc' := 348) rfl ?_
                        refine j_cVR (cells1 := 1) (slots1 := 6) (st1 := [.int (lEnd mu ns (bPass ns S K9) 0 K9)]) (As := [.int (nI K9)]) (rest := []) cx (n_pass hl0 hY (h.bp K9) hK9 (by omega)) gL_acts_X2_pass rfl rfl rfl 1 rfl (by decide +kernel) ⟨Nat.le_of_ble_eq_true rfl, Nat.le_of_ble_eq_true rfl⟩ hY.1 rfl rfl rfl rfl (Nat.le_of_ble_eq_true rfl) dL_acts_348 ⟨(Nat.le_of_ble_eq_true rfl), (Nat.le_of_ble_eq_true rfl)⟩ (pc' := 351) rfl rfl rfl rfl ?_
                        refine j_iload (j := 3) cx dL_acts_351 rfl (pc' := 353) rfl ?_
                        refine j_icmp_ne (tgt := 360) cx dL_acts_353 (by decide) (pc' := 356) rfl (fun hq9 => by first | exact absurd hq9 ((h.passes (k := K9) (by omega)).2 0) | exact absurd ((h.passes (k := K9) (by omega)).2 0) hq9) (fun _ => ?_)
                        refine j_iconst (v := 1) cx dL_acts_356 (by decide) (pc' := 357) rfl ?_
                        refine j_goto (tgt := 361) cx dL_acts_357 (by decide) ?_
                        exact j_iret (ty := .boolean) cx hlk hr rfl (Nat.le_of_ble_eq_true rfl) (Nat.le_of_ble_eq_true rfl) dL_acts_361 ⟨rfl, ns, mu, hY, hFr, hK, rfl, rfl, (h.passes (k := K9) (by omega)).1.weak (by omega) (by omega)⟩
                      | succ k ih =>
                        intro j U a hjk hB9 he he2
                        have hj : j < K9 := by omega
                        refine j_iload (j := 4) cx dL_acts_323 rfl (pc' := 325) rfl ?_
                        refine j_iload (j := 2) cx dL_acts_325 rfl (pc' := 327) rfl ?_
                        refine j_icmp_ge (tgt := 345) cx dL_acts_327 (by decide) (pc' := 330) rfl (fun hq9 => by first | exact absurd hq9 (nI_ge hj (by omega)) | exact absurd (nI_ge hj (by omega)) hq9) (fun _ => ?_)
                        refine j_iload (j := 3) cx dL_acts_330 rfl (pc' := 332) rfl ?_
                        refine j_aload_n (j := 1) cx dL_acts_332 rfl rfl (pc' := 333) rfl ?_
                        refine j_cVR (cells1 := 0) (slots1 := 0) (st1 := [.int (bPc (bTick U) 0 0 ns), .int a]) (As := []) (rest := [.int a]) cx (c_X3_pass hK hB9) gL_acts_X3_pass rfl rfl rfl 0 rfl (by decide +kernel) ⟨Nat.le_of_ble_eq_true rfl, Nat.le_of_ble_eq_true rfl⟩ hK.1 rfl rfl rfl rfl (Nat.le_of_ble_eq_true rfl) dL_acts_333 ⟨(Nat.le_of_ble_eq_true rfl), (Nat.le_of_ble_eq_true rfl)⟩ (pc' := 336) rfl rfl rfl rfl ?_
                        refine j_iadd cx dL_acts_336 (pc' := 337) rfl ?_
                        refine j_istore (lv' := [(9, .int (a + (bPc (bTick U) 0 0 ns))), (0, .ref (al 0 0)), (1, .ref (al 40 0)), (8, .int (nI K9)), (10, .int (nI j))]) cx dL_acts_337 (by decide) rfl (pc' := 339) rfl ?_
                        refine j_iinc (j := 4) (v := nI (j + 1)) (lv' := [(10, .int (nI (j + 1))), (9, .int (a + (bPc (bTick U) 0 0 ns))), (0, .ref (al 0 0)), (1, .ref (al 40 0)), (8, .int (nI K9))]) cx dL_acts_339 rfl (nI_1 j) (by decide) rfl (pc' := 342) rfl ?_
                        refine j_goto (tgt := 323) cx dL_acts_342 (by decide) ?_
                        exact J.sub [2, 3, 4, 1, 0] rfl (ih (j + 1) _ _ (by omega) (BI.ps _ _ (BI.tick hB9)) he he2)
                    refine J.lve (lv' := [(10, .int 0), (9, .int 0), (8, .int (nI K9)), (7, .int (nI u9)), (6, .int (nI b9)), (5, .int (nI a9)), (4, .int (nI s9)), (3, .int (nI w9)), (0, .ref (al 0 0)), (1, .ref (al 40 0)), (2, .int v)]) (by rw [one_nI, eK9]) ?_
                    exact J.sub [8, 9, 2, 1, 0] rfl (loop K9 0 S 0 (by omega) h.bi rfl rfl)
                  · refine j_aload_n (j := 5) cx dL_acts_281 rfl rfl (pc' := 282) rfl ?_
                    refine j_aload_n (j := 6) cx dL_acts_282 rfl rfl (pc' := 283) rfl ?_
                    refine j_iload (j := 3) cx dL_acts_283 rfl (pc' := 285) rfl ?_
                    refine j_iload_n (j := 7) cx dL_acts_285 rfl rfl (pc' := 286) rfl ?_
                    refine j_bipush (v := 10) cx dL_acts_286 (by decide) (pc' := 288) rfl ?_
                    refine j_ishr cx dL_acts_288 (pc' := 289) rfl ?_
                    refine j_iconst (v := 3) cx dL_acts_289 (by decide) (pc' := 290) rfl ?_
                    refine j_cSR (cells1 := 0) (slots1 := 0) (st1 := [.int (nI (lwN (v >>> (10 &&& 31)) 3)), .int (nI s9), .ref (al 40 0), .ref (al 0 0)]) (As := [.int (v >>> (10 &&& 31)), .int 3]) (rest := [.int (nI s9), .ref (al 40 0), .ref (al 0 0)]) cx (c_L_low (by decide) (by decide) (by decide)) gL_acts_L_low rfl rfl rfl 2 rfl (by decide +kernel) ⟨Nat.le_of_ble_eq_true rfl, Nat.le_of_ble_eq_true rfl⟩ rfl (Nat.le_of_ble_eq_true rfl) dL_acts_290 ⟨(Nat.le_of_ble_eq_true rfl), (Nat.le_of_ble_eq_true rfl)⟩ (pc' := 293) rfl rfl rfl rfl ?_
                    refine j_if_le (tgt := 300) cx dL_acts_293 (by decide) (pc' := 296) rfl (fun h17 => ?_) (fun h17 => ?_)
                    · refine j_iconst (v := 0) cx dL_acts_300 (by decide) (pc' := 301) rfl ?_
                      refine j_cSP (cells1 := 3) (slots1 := 18) (As := [.ref (al 0 0), .ref (al 40 0), .int (nI s9), .int 0]) (rest := []) cx (c_L_ends hl0 hY hK h (lt_s9 h11)) gL_acts_L_ends rfl rfl rfl 4 rfl (by decide +kernel) ⟨Nat.le_of_ble_eq_true rfl, Nat.le_of_ble_eq_true rfl⟩ rfl (Nat.le_of_ble_eq_true rfl) dL_acts_301 ⟨(Nat.le_of_ble_eq_true rfl), (Nat.le_of_ble_eq_true rfl)⟩ (pc' := 304) rfl rfl rfl (fun v9 al9 sh9 S9 h9 => ?_)
                      obtain ⟨e1, e2, e3, h9⟩ := h9
                      subst v9 al9 sh9
                      refine J.stk (st2 := [.int 1]) rfl ?_
                      exact j_iret (ty := .boolean) cx hlk hr rfl (Nat.le_of_ble_eq_true rfl) (Nat.le_of_ble_eq_true rfl) dL_acts_304 ⟨rfl, ns, mu, hY, hFr, hK, rfl, rfl, h9.weak (by omega) (by omega)⟩
                    · refine j_iconst (v := 1) cx dL_acts_296 (by decide) (pc' := 297) rfl ?_
                      refine j_goto (tgt := 301) cx dL_acts_297 (by decide) ?_
                      refine j_cSP (cells1 := 3) (slots1 := 18) (As := [.ref (al 0 0), .ref (al 40 0), .int (nI s9), .int 1]) (rest := []) cx (c_L_ends hl0 hY hK h (lt_s9 h11)) gL_acts_L_ends rfl rfl rfl 4 rfl (by decide +kernel) ⟨Nat.le_of_ble_eq_true rfl, Nat.le_of_ble_eq_true rfl⟩ rfl (Nat.le_of_ble_eq_true rfl) dL_acts_301 ⟨(Nat.le_of_ble_eq_true rfl), (Nat.le_of_ble_eq_true rfl)⟩ (pc' := 304) rfl rfl rfl (fun v9 al9 sh9 S9 h9 => ?_)
                      obtain ⟨e1, e2, e3, h9⟩ := h9
                      subst v9 al9 sh9
                      refine J.stk (st2 := [.int 1]) rfl ?_
                      exact j_iret (ty := .boolean) cx hlk hr rfl (Nat.le_of_ble_eq_true rfl) (Nat.le_of_ble_eq_true rfl) dL_acts_304 ⟨rfl, ns, mu, hY, hFr, hK, rfl, rfl, h9.weak (by omega) (by omega)⟩
                · refine j_aload_n (j := 5) cx dL_acts_256 rfl rfl (pc' := 257) rfl ?_
                  refine j_aload_n (j := 6) cx dL_acts_257 rfl rfl (pc' := 258) rfl ?_
                  refine j_iload (j := 3) cx dL_acts_258 rfl (pc' := 260) rfl ?_
                  refine j_iconst (v := 1) cx dL_acts_260 (by decide) (pc' := 261) rfl ?_
                  refine j_iload_n (j := 7) cx dL_acts_261 rfl rfl (pc' := 262) rfl ?_
                  refine j_bipush (v := 10) cx dL_acts_262 (by decide) (pc' := 264) rfl ?_
                  refine j_ishr cx dL_acts_264 (pc' := 265) rfl ?_
                  refine j_bipush (v := 9) cx dL_acts_265 (by decide) (pc' := 267) rfl ?_
                  refine j_cSR (cells1 := 0) (slots1 := 0) (st1 := [.int (nI (lwN (v >>> (10 &&& 31)) 9)), .int 1, .int (nI s9), .ref (al 40 0), .ref (al 0 0)]) (As := [.int (v >>> (10 &&& 31)), .int 9]) (rest := [.int 1, .int (nI s9), .ref (al 40 0), .ref (al 0 0)]) cx (c_L_low (by decide) (by decide) (by decide)) gL_acts_L_low rfl rfl rfl 2 rfl (by decide +kernel) ⟨Nat.le_of_ble_eq_true rfl, Nat.le_of_ble_eq_true rfl⟩ rfl (Nat.le_of_ble_eq_true rfl) dL_acts_267 ⟨(Nat.le_of_ble_eq_true rfl), (Nat.le_of_ble_eq_true rfl)⟩ (pc' := 270) rfl rfl rfl rfl ?_
                  refine j_iadd cx dL_acts_270 (pc' := 271) rfl ?_
                  refine j_cSW (cells1 := 4) (slots1 := 24) (As := [.ref (al 0 0), .ref (al 40 0), .int (nI s9), .int ((1 : Int32) + (nI (lwN (v >>> (10 &&& 31)) 9)))]) (rest := []) cx (c_L_prints hl0 hY hK h (by omega) (lt_s9 h11) (m1_toInt (N := 9) (lwN_lt (by decide)) (by decide))) gL_acts_L_prints rfl rfl rfl 4 rfl (by decide +kernel) ⟨Nat.le_of_ble_eq_true rfl, Nat.le_of_ble_eq_true rfl⟩ rfl (Nat.le_of_ble_eq_true rfl) dL_acts_271 ⟨(Nat.le_of_ble_eq_true rfl), (Nat.le_of_ble_eq_true rfl)⟩ (pc' := 274) rfl rfl rfl (fun v9 al9 sh9 S9 h9 => ?_)
                  obtain ⟨e1, e2, e3, h9⟩ := h9
                  subst v9 al9 sh9
                  refine J.stk (st2 := [.int 1]) rfl ?_
                  exact j_iret (ty := .boolean) cx hlk hr rfl (Nat.le_of_ble_eq_true rfl) (Nat.le_of_ble_eq_true rfl) dL_acts_274 ⟨rfl, ns, mu, hY, hFr, hK, rfl, rfl, h9.weak (by omega) (by omega)⟩
              · refine j_aload_n (j := 5) cx dL_acts_240 rfl rfl (pc' := 241) rfl ?_
                refine j_aload_n (j := 6) cx dL_acts_241 rfl rfl (pc' := 242) rfl ?_
                refine j_iload (j := 3) cx dL_acts_242 rfl (pc' := 244) rfl ?_
                refine j_iload (j := 0) cx dL_acts_244 rfl (pc' := 246) rfl ?_
                refine j_cSW (cells1 := 4) (slots1 := 24) (As := [.ref (al 0 0), .ref (al 40 0), .int (nI s9), .int (nI u9)]) (rest := []) cx (c_L_takes hl0 hY hK h (lt_s9 h11) hu9) gL_acts_L_takes rfl rfl rfl 4 rfl (by decide +kernel) ⟨Nat.le_of_ble_eq_true rfl, Nat.le_of_ble_eq_true rfl⟩ rfl (Nat.le_of_ble_eq_true rfl) dL_acts_246 ⟨(Nat.le_of_ble_eq_true rfl), (Nat.le_of_ble_eq_true rfl)⟩ (pc' := 249) rfl rfl rfl (fun v9 al9 sh9 S9 h9 => ?_)
                obtain ⟨e1, e2, e3, h9⟩ := h9
                subst v9 al9 sh9
                refine J.stk (st2 := [.int 1]) rfl ?_
                exact j_iret (ty := .boolean) cx hlk hr rfl (Nat.le_of_ble_eq_true rfl) (Nat.le_of_ble_eq_true rfl) dL_acts_249 ⟨rfl, ns, mu, hY, hFr, hK, rfl, rfl, h9.weak (by omega) (by omega)⟩
            · refine j_aload_n (j := 5) cx dL_acts_226 rfl rfl (pc' := 227) rfl ?_
              refine j_aload_n (j := 6) cx dL_acts_227 rfl rfl (pc' := 228) rfl ?_
              refine j_iload (j := 0) cx dL_acts_228 rfl (pc' := 230) rfl ?_
              refine j_cSW (cells1 := 7) (slots1 := 100) (As := [.ref (al 0 0), .ref (al 40 0), .int (nI u9)]) (rest := []) cx (c_L_logs hl0 hY hK h hFr hu9) gL_acts_L_logs rfl rfl rfl 3 rfl (by decide +kernel) ⟨Nat.le_of_ble_eq_true rfl, Nat.le_of_ble_eq_true rfl⟩ rfl (Nat.le_of_ble_eq_true rfl) dL_acts_230 ⟨(Nat.le_of_ble_eq_true rfl), (Nat.le_of_ble_eq_true rfl)⟩ (pc' := 233) rfl rfl rfl (fun v9 al9 sh9 S9 h9 => ?_)
              obtain ⟨e1, h9⟩ := h9
              subst v9
              refine J.stk (st2 := [.int 1]) rfl ?_
              exact j_iret (ty := .boolean) cx hlk hr rfl (Nat.le_of_ble_eq_true rfl) (Nat.le_of_ble_eq_true rfl) dL_acts_233 (by obtain ⟨n1, m1, b1, b2, b3, b4, b5, b6⟩ := h9; exact ⟨rfl, n1, m1, b1, b2, b3, b4, b5, b6.weak (by omega) (by omega)⟩)
        · refine j_aload_n (j := 6) cx dL_acts_176 rfl rfl (pc' := 177) rfl ?_
          refine j_getN (fk := 2) (v := .ref (al 44 0)) cx rfl hK.1 inB_L_acts (by decide) (by decide) rfl (yV_r (k := (44, 0)) rfl) rfl dL_acts_177 (pc' := 180) rfl ?_
          refine j_iload (j := 0) cx dL_acts_180 rfl (pc' := 182) rfl ?_
          refine j_iald (v := S 44 0 u9) cx hK.2.2.1 rfl (vp_in_nI hu9 (by decide)) (by rw [(nI_clamp (by omega))]) rfl dL_acts_182 (pc' := 183) rfl ?_
          refine j_istore (lv' := [(8, .int (S 44 0 u9)), (7, .int (nI u9)), (6, .int (nI b9)), (5, .int (nI a9)), (4, .int (nI s9)), (3, .int (nI w9)), (0, .ref (al 0 0)), (1, .ref (al 40 0)), (2, .int v)]) cx dL_acts_183 (by decide) rfl (pc' := 185) rfl ?_
          refine j_aload_n (j := 7) cx dL_acts_185 rfl rfl (pc' := 186) rfl ?_
          refine j_getN (fk := 2) (v := .ref (al 44 0)) cx rfl hK.1 inB_L_acts (by decide) (by decide) rfl (yV_r (k := (44, 0)) rfl) rfl dL_acts_186 (pc' := 189) rfl ?_
          refine j_iload (j := 1) cx dL_acts_189 rfl (pc' := 191) rfl ?_
          refine j_iload (j := 3) cx dL_acts_191 rfl (pc' := 193) rfl ?_
          refine j_iast (jn := u9) cx hK.2.2.1 rfl (vp_in_nI hu9 (by decide)) (nI_clamp (by omega)) rfl dL_acts_193 (pc' := 194) rfl ?_
          refine j_aload_n (j := 6) cx dL_acts_194 rfl rfl (pc' := 195) rfl ?_
          refine j_iload (j := 1) cx dL_acts_195 rfl (pc' := 197) rfl ?_
          refine j_iload (j := 3) cx dL_acts_197 rfl (pc' := 199) rfl ?_
          refine j_cVR (cells1 := 2) (slots1 := 12) (st1 := [.int (S 44 0 u9)]) (As := [.int (nI u9), .int (nI a9)]) (rest := []) cx (n_asg hl0 hY (S := (sup S 44 0 u9 (nI a9))) (B := S) (by unfold IN; simp (disch := decide) only [sup_k]; exact h) hu9 ha9) gL_acts_X2_assign rfl rfl rfl 2 rfl (by decide +kernel) ⟨Nat.le_of_ble_eq_true rfl, Nat.le_of_ble_eq_true rfl⟩ hY.1 rfl rfl rfl rfl (Nat.le_of_ble_eq_true rfl) dL_acts_199 ⟨(Nat.le_of_ble_eq_true rfl), (Nat.le_of_ble_eq_true rfl)⟩ (pc' := 202) rfl rfl rfl rfl ?_
          refine j_iload (j := 0) cx dL_acts_202 rfl (pc' := 204) rfl ?_
          refine j_icmp_ne (tgt := 211) cx dL_acts_204 (by decide) (pc' := 207) rfl (fun hq9 => by first | exact absurd hq9 rfl | exact absurd rfl hq9) (fun _ => ?_)
          refine j_iconst (v := 1) cx dL_acts_207 (by decide) (pc' := 208) rfl ?_
          refine j_goto (tgt := 212) cx dL_acts_208 (by decide) ?_
          exact j_iret (ty := .boolean) cx hlk hr rfl (Nat.le_of_ble_eq_true rfl) (Nat.le_of_ble_eq_true rfl) dL_acts_212 ⟨rfl, ns, mu, hY, hFr, hK, rfl, rfl, (by have e := INs.weak (o_asg (u := u9) h (vp_in_nI ha9 (by decide))) (M' := M + 60) (T' := T + 12) (by omega) (by omega); unfold IN; simp (disch := decide) only [sup_s, sup_k]; exact e)⟩
      · refine j_aload_n (j := 5) cx dL_acts_150 rfl rfl (pc' := 151) rfl ?_
        refine j_aload_n (j := 6) cx dL_acts_151 rfl rfl (pc' := 152) rfl ?_
        refine j_iload (j := 2) cx dL_acts_152 rfl (pc' := 154) rfl ?_
        refine j_iload (j := 1) cx dL_acts_154 rfl (pc' := 156) rfl ?_
        refine j_iconst (v := 1) cx dL_acts_156 (by decide) (pc' := 157) rfl ?_
        refine j_iload_n (j := 7) cx dL_acts_157 rfl rfl (pc' := 158) rfl ?_
        refine j_bipush (v := 8) cx dL_acts_158 (by decide) (pc' := 160) rfl ?_
        refine j_ishr cx dL_acts_160 (pc' := 161) rfl ?_
        refine j_bipush (v := 20) cx dL_acts_161 (by decide) (pc' := 163) rfl ?_
        refine j_cSR (cells1 := 0) (slots1 := 0) (st1 := [.int (nI (lwN (v >>> (8 &&& 31)) 20)), .int 1, .int (nI b9), .int (nI a9), .ref (al 40 0), .ref (al 0 0)]) (As := [.int (v >>> (8 &&& 31)), .int 20]) (rest := [.int 1, .int (nI b9), .int (nI a9), .ref (al 40 0), .ref (al 0 0)]) cx (c_L_low (by decide) (by decide) (by decide)) gL_acts_L_low rfl rfl rfl 2 rfl (by decide +kernel) ⟨Nat.le_of_ble_eq_true rfl, Nat.le_of_ble_eq_true rfl⟩ rfl (Nat.le_of_ble_eq_true rfl) dL_acts_163 ⟨(Nat.le_of_ble_eq_true rfl), (Nat.le_of_ble_eq_true rfl)⟩ (pc' := 166) rfl rfl rfl rfl ?_
        refine j_iadd cx dL_acts_166 (pc' := 167) rfl ?_
        refine j_cSW (cells1 := 5) (slots1 := 30) (As := [.ref (al 0 0), .ref (al 40 0), .int (nI a9), .int (nI b9), .int ((1 : Int32) + (nI (lwN (v >>> (8 &&& 31)) 20)))]) (rest := []) cx (c_L_gives hl0 hY hK h (by omega) ha9 hb9 hab9 (by have q := m1_toInt (N := 20) (lwN_lt (v := (v >>> (8 &&& 31))) (d := 20) (by decide)) (by decide); omega)) gL_acts_L_gives rfl rfl rfl 5 rfl (by decide +kernel) ⟨Nat.le_of_ble_eq_true rfl, Nat.le_of_ble_eq_true rfl⟩ rfl (Nat.le_of_ble_eq_true rfl) dL_acts_167 ⟨(Nat.le_of_ble_eq_true rfl), (Nat.le_of_ble_eq_true rfl)⟩ (pc' := 170) rfl rfl rfl (fun v9 al9 sh9 S9 h9 => ?_)
        obtain ⟨e1, e2, e3, h9⟩ := h9
        subst v9 al9 sh9
        refine J.stk (st2 := [.int 1]) rfl ?_
        exact j_iret (ty := .boolean) cx hlk hr rfl (Nat.le_of_ble_eq_true rfl) (Nat.le_of_ble_eq_true rfl) dL_acts_170 ⟨rfl, ns, mu, hY, hFr, hK, rfl, rfl, h9.weak (by omega) (by omega)⟩
    · refine j_aload_n (j := 5) cx dL_acts_124 rfl rfl (pc' := 125) rfl ?_
      refine j_aload_n (j := 6) cx dL_acts_125 rfl rfl (pc' := 126) rfl ?_
      refine j_iload (j := 2) cx dL_acts_126 rfl (pc' := 128) rfl ?_
      refine j_iload (j := 1) cx dL_acts_128 rfl (pc' := 130) rfl ?_
      refine j_iconst (v := 1) cx dL_acts_130 (by decide) (pc' := 131) rfl ?_
      refine j_iload_n (j := 7) cx dL_acts_131 rfl rfl (pc' := 132) rfl ?_
      refine j_bipush (v := 8) cx dL_acts_132 (by decide) (pc' := 134) rfl ?_
      refine j_ishr cx dL_acts_134 (pc' := 135) rfl ?_
      refine j_bipush (v := 40) cx dL_acts_135 (by decide) (pc' := 137) rfl ?_
      refine j_cSR (cells1 := 0) (slots1 := 0) (st1 := [.int (nI (lwN (v >>> (8 &&& 31)) 40)), .int 1, .int (nI b9), .int (nI a9), .ref (al 40 0), .ref (al 0 0)]) (As := [.int (v >>> (8 &&& 31)), .int 40]) (rest := [.int 1, .int (nI b9), .int (nI a9), .ref (al 40 0), .ref (al 0 0)]) cx (c_L_low (by decide) (by decide) (by decide)) gL_acts_L_low rfl rfl rfl 2 rfl (by decide +kernel) ⟨Nat.le_of_ble_eq_true rfl, Nat.le_of_ble_eq_true rfl⟩ rfl (Nat.le_of_ble_eq_true rfl) dL_acts_137 ⟨(Nat.le_of_ble_eq_true rfl), (Nat.le_of_ble_eq_true rfl)⟩ (pc' := 140) rfl rfl rfl rfl ?_
      refine j_iadd cx dL_acts_140 (pc' := 141) rfl ?_
      refine j_cSW (cells1 := 5) (slots1 := 30) (As := [.ref (al 0 0), .ref (al 40 0), .int (nI a9), .int (nI b9), .int ((1 : Int32) + (nI (lwN (v >>> (8 &&& 31)) 40)))]) (rest := []) cx (c_L_lends hl0 hY hK h (by omega) ha9 hb9 hab9 (by have q := m1_toInt (N := 40) (lwN_lt (v := (v >>> (8 &&& 31))) (d := 40) (by decide)) (by decide); omega)) gL_acts_L_lends rfl rfl rfl 5 rfl (by decide +kernel) ⟨Nat.le_of_ble_eq_true rfl, Nat.le_of_ble_eq_true rfl⟩ rfl (Nat.le_of_ble_eq_true rfl) dL_acts_141 ⟨(Nat.le_of_ble_eq_true rfl), (Nat.le_of_ble_eq_true rfl)⟩ (pc' := 144) rfl rfl rfl (fun v9 al9 sh9 S9 h9 => ?_)
      obtain ⟨e1, e2, e3, h9⟩ := h9
      subst v9 al9 sh9
      refine J.stk (st2 := [.int 1]) rfl ?_
      exact j_iret (ty := .boolean) cx hlk hr rfl (Nat.le_of_ble_eq_true rfl) (Nat.le_of_ble_eq_true rfl) dL_acts_144 ⟨rfl, ns, mu, hY, hFr, hK, rfl, rfl, h9.weak (by omega) (by omega)⟩
  · refine j_aload_n (j := 6) cx dL_acts_65 rfl rfl (pc' := 66) rfl ?_
    refine j_getN (fk := 0) (v := .ref (al 41 0)) cx rfl hK.1 inB_L_acts (by decide) (by decide) rfl (yV_r (k := (41, 0)) rfl) rfl dL_acts_66 (pc' := 69) rfl ?_
    refine j_iload (j := 2) cx dL_acts_69 rfl (pc' := 71) rfl ?_
    refine j_dup2 cx dL_acts_71 rfl rfl (pc' := 72) rfl ?_
    refine j_iald (v := S 41 0 a9) cx hK.2.1 rfl (vp_in_nI ha9 (by decide)) (by rw [(nI_clamp (by omega))]) rfl dL_acts_72 (pc' := 73) rfl ?_
    refine j_iconst (v := 1) cx dL_acts_73 (by decide) (pc' := 74) rfl ?_
    refine j_iload_n (j := 7) cx dL_acts_74 rfl rfl (pc' := 75) rfl ?_
    refine j_bipush (v := 6) cx dL_acts_75 (by decide) (pc' := 77) rfl ?_
    refine j_ishr cx dL_acts_77 (pc' := 78) rfl ?_
    refine j_bipush (v := 60) cx dL_acts_78 (by decide) (pc' := 80) rfl ?_
    refine j_cSR (cells1 := 0) (slots1 := 0) (st1 := [.int (nI (lwN (v >>> (6 &&& 31)) 60)), .int 1, .int (S 41 0 a9), .int (nI a9), .ref (al 41 0)]) (As := [.int (v >>> (6 &&& 31)), .int 60]) (rest := [.int 1, .int (S 41 0 a9), .int (nI a9), .ref (al 41 0)]) cx (c_L_low (by decide) (by decide) (by decide)) gL_acts_L_low rfl rfl rfl 2 rfl (by decide +kernel) ⟨Nat.le_of_ble_eq_true rfl, Nat.le_of_ble_eq_true rfl⟩ rfl (Nat.le_of_ble_eq_true rfl) dL_acts_80 ⟨(Nat.le_of_ble_eq_true rfl), (Nat.le_of_ble_eq_true rfl)⟩ (pc' := 83) rfl rfl rfl rfl ?_
    refine j_iadd cx dL_acts_83 (pc' := 84) rfl ?_
    refine j_iadd cx dL_acts_84 (pc' := 85) rfl ?_
    refine j_iast (jn := a9) cx hK.2.1 rfl (vp_in_nI ha9 (by decide)) (nI_clamp (by omega)) rfl dL_acts_85 (pc' := 86) rfl ?_
    refine j_aload_n (j := 5) cx dL_acts_86 rfl rfl (pc' := 87) rfl ?_
    refine j_iload (j := 2) cx dL_acts_87 rfl (pc' := 89) rfl ?_
    refine j_iconst (v := 1) cx dL_acts_89 (by decide) (pc' := 90) rfl ?_
    refine j_iload_n (j := 7) cx dL_acts_90 rfl rfl (pc' := 91) rfl ?_
    refine j_bipush (v := 6) cx dL_acts_91 (by decide) (pc' := 93) rfl ?_
    refine j_ishr cx dL_acts_93 (pc' := 94) rfl ?_
    refine j_bipush (v := 60) cx dL_acts_94 (by decide) (pc' := 96) rfl ?_
    refine j_cSR (cells1 := 0) (slots1 := 0) (st1 := [.int (nI (lwN (v >>> (6 &&& 31)) 60)), .int 1, .int (nI a9), .ref (al 0 0)]) (As := [.int (v >>> (6 &&& 31)), .int 60]) (rest := [.int 1, .int (nI a9), .ref (al 0 0)]) cx (c_L_low (by decide) (by decide) (by decide)) gL_acts_L_low rfl rfl rfl 2 rfl (by decide +kernel) ⟨Nat.le_of_ble_eq_true rfl, Nat.le_of_ble_eq_true rfl⟩ rfl (Nat.le_of_ble_eq_true rfl) dL_acts_96 ⟨(Nat.le_of_ble_eq_true rfl), (Nat.le_of_ble_eq_true rfl)⟩ (pc' := 99) rfl rfl rfl rfl ?_
    refine j_iadd cx dL_acts_99 (pc' := 100) rfl ?_
    refine j_cVR (cells1 := 3) (slots1 := 18) (st1 := [.int (S 41 0 a9 + ((1 : Int32) + (nI (lwN (v >>> (6 &&& 31)) 60))))]) (As := [.int (nI a9), .int ((1 : Int32) + (nI (lwN (v >>> (6 &&& 31)) 60)))]) (rest := []) cx (n_buy hl0 hY (S := (sup S 41 0 a9 ((S 41 0 a9) + ((1 : Int32) + (nI (lwN (v >>> (6 &&& 31)) 60)))))) (B := S) (by unfold IN; simp (disch := decide) only [sup_k]; exact h) ha9 (by have q := m1_toInt (N := 60) (lwN_lt (v := (v >>> (6 &&& 31))) (d := 60) (by decide)) (by decide); omega) (by omega)) gL_acts_X2_buy rfl rfl rfl 2 rfl (by decide +kernel) ⟨Nat.le_of_ble_eq_true rfl, Nat.le_of_ble_eq_true rfl⟩ hY.1 rfl rfl rfl rfl (Nat.le_of_ble_eq_true rfl) dL_acts_100 ⟨(Nat.le_of_ble_eq_true rfl), (Nat.le_of_ble_eq_true rfl)⟩ (pc' := 103) rfl rfl rfl rfl ?_
    refine j_aload_n (j := 6) cx dL_acts_103 rfl rfl (pc' := 104) rfl ?_
    refine j_getN (fk := 0) (v := .ref (al 41 0)) cx rfl hK.1 inB_L_acts (by decide) (by decide) rfl (yV_r (k := (41, 0)) rfl) rfl dL_acts_104 (pc' := 107) rfl ?_
    refine j_iload (j := 2) cx dL_acts_107 rfl (pc' := 109) rfl ?_
    refine j_iald (v := (S 41 0 a9) + ((1 : Int32) + (nI (lwN (v >>> (6 &&& 31)) 60)))) cx hK.2.1 rfl (vp_in_nI ha9 (by decide)) (by rw [(nI_clamp (by omega))]; simp [sup, bCharge_o, bSt_o, fTo_o, fCharge_o, fMove, fPrint, fEnd_o]) rfl dL_acts_109 (pc' := 110) rfl ?_
    refine j_icmp_ne (tgt := 117) cx dL_acts_110 (by decide) (pc' := 113) rfl (fun hq9 => by first | exact absurd hq9 rfl | exact absurd rfl hq9) (fun _ => ?_)
    refine j_iconst (v := 1) cx dL_acts_113 (by decide) (pc' := 114) rfl ?_
    refine j_goto (tgt := 118) cx dL_acts_114 (by decide) ?_
    exact j_iret (ty := .boolean) cx hlk hr rfl (Nat.le_of_ble_eq_true rfl) (Nat.le_of_ble_eq_true rfl) dL_acts_118 ⟨rfl, ns, mu, hY, hFr, hK, rfl, rfl, (by have e := INs.weak (o_buy (m := (1 : Int32) + nI (lwN (v >>> (6 &&& 31)) 60)) h (by omega) ha9 (by have q := m1_toInt (N := 60) (lwN_lt (v := (v >>> (6 &&& 31))) (d := 60) (by decide)) (by decide); omega)) (M' := M + 60) (T' := T + 12) (by omega) (by omega); unfold IN; simp (disch := decide) only [sup_s, sup_k]; exact e)⟩
