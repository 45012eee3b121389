/-! THE SCRIPT, read by a method of the law -/
section JLAW
variable {p : Program} {l : Launch} {e : Env} {R : Room} {s : State} {m : MethodId} {args : Array Value} {below : List Frame} {meth : Method} {c : Code} {cells slots cells1 slots1 : Nat} {Q : State → Prop} {cc : ByteArray} {nL pc pc' : Nat} {own : String} {Ts : List Cond} {Z : yL} {al : yAl} {sh : ySh} {S : yS} {lv : List (Nat × Value)} {st rest : List Value}
/-- the script's i-th int -/
theorem j_sld (cx : Cx p s m args c cc nL own Ts Z) {b L : Nat} {xs : Nat → Int32} (hX : va_X b L xs s s.heap) (hb0 : b < s.heap.size ∧ ¬ Z.2.2.1 ≤ b) {n : Nat} (hn : n < L ∧ L ≤ 2048) (d : decode cc pc = .ok (.iaload, 1)) (hp : pc + 1 = pc') (k : J p l e R s m args below meth c nL Z cells slots Q al sh S pc' lv (.int (xs n) :: st)) : J p l e R s m args below meth c nL Z cells slots Q al sh S pc lv (.int (nI n) :: .ref b :: st) := by
  subst hp
  intro H locs ls hW hS hl
  have h1 := k H locs ls hW hS hl
  have e1 : (nI n).toNatClampNeg = n := nI_clamp (by omega)
  rw [← e1] at h1
  exact va_sld cx.1.1 cx.1.2.1 hX hb0.1 hb0.2 hS (vp_in_nI (by omega) (by omega)) d h1
theorem j_slen (cx : Cx p s m args c cc nL own Ts Z) {b L : Nat} {xs : Nat → Int32} (hX : va_X b L xs s s.heap) (hb0 : b < s.heap.size ∧ ¬ Z.2.2.1 ≤ b) (d : decode cc pc = .ok (.arraylength, 1)) (hp : pc + 1 = pc') (k : J p l e R s m args below meth c nL Z cells slots Q al sh S pc' lv (.int (nI L) :: st)) : J p l e R s m args below meth c nL Z cells slots Q al sh S pc lv (.ref b :: st) := by
  subst hp
  exact fun H locs ls hW hS hl => va_slen cx.1.1 cx.1.2.1 hX hb0.1 hb0.2 hS d (k H locs ls hW hS hl)
end JLAW
def PnX (Z : yL) (b L : Nat) (xs : Nat → Int32) (av : List Value) (al : yAl) (sh : ySh) (S : yS) : Array Value → State → Prop := fun a U => Pn Z av al sh S a U ∧ va_X b L xs U U.heap ∧ b < U.heap.size ∧ ¬ Z.2.2.1 ≤ b
theorem PnX.blind {Z : yL} {b L : Nat} {xs : Nat → Int32} {av : List Value} {al : yAl} {sh : ySh} {S : yS} : FrameBlind (PnX Z b L xs av al sh S) := fun _ U g mk h => ⟨Pn.blind _ _ g mk h.1, va_X.moved (u := U) (Vm.Alike.refl U.vm) h.2.1, h.2.2⟩
/-- a contract over a world and the script -/
def CtX (l : Launch) (y : MethodName) (ws : List Cond) (rm : Room) (mc ms : Nat) (Z : yL) (b L : Nat) (xs : Nat → Int32) (av : List Value) (al : yAl) (sh : ySh) (S : yS) (post : yPost) : Prop :=
  Met l y ws rm (PnX Z b L xs av al sh S) (Qn Z post) mc ms (yF Z)
theorem CtX.of {l : Launch} {y : MethodName} {ws ws' : List Cond} {rm : Room} {mc ms : Nat} {Z : yL} {b L : Nat} {xs : Nat → Int32} {av : List Value} {al : yAl} {sh : ySh} {S : yS} {post : yPost} {bytes : ByteArray} {maxL : Nat} {ret : Option FieldType} {lv : List (Nat × Value)} (hy : plainName y.cls = true) (hw : ws = Cond.code y bytes maxL ret :: ws') (hlen : (lg_sl av).length ≤ maxL) (hlv : lv_args 0 av = lv)
    (body : ∀ p e s m below meth c, Cx p s m av.toArray c bytes maxL y.cls ws Z → va_X b L xs s s.heap → (b < s.heap.size ∧ ¬ Z.2.2.1 ≤ b) → meth.locks = false → meth.sig.returnType = ret → meth.name = y.name → J p l e rm s m av.toArray below meth c maxL Z 0 0 (MQ below (Qn Z post) av.toArray s mc ms (yF Z)) al sh S 0 lv []) : CtX l y ws rm mc ms Z b L xs av al sh S post := by
  refine Met.ofW (cc := bytes) (maxL := maxL) (ret := ret) hy hw ?_
  intro p e s m args below meth c s₁ B hml hv
  obtain ⟨⟨rfl, hP⟩, hX, hb⟩ := hv
  exact J.start hlen hlv hP (body p e s m below meth c ⟨⟨B.exec, B.bytes, hml, findClass_of_methodNamed B.named, atoms_spec (ws := ws) B.pre⟩, hP.2.1, hP.1.1, hP.2.2⟩ hX hb B.notSynchronized B.returns (name_of_methodNamed B.named B.method).1)
section JCELL
variable {p : Program} {l : Launch} {e : Env} {R : Room} {s : State} {m : MethodId} {args : Array Value} {below : List Frame} {meth : Method} {c : Code} {cells slots : Nat} {Q : State → Prop} {cc : ByteArray} {nL pc pc' : Nat} {own : String} {Ts : List Cond} {Z : yL} {al : yAl} {sh : ySh} {S : yS} {lv : List (Nat × Value)} {st rest : List Value}
variable {y : MethodName} {ws ws' : List Cond} {rm : Room} {mc ms idx n maxL : Nat} {bytes : ByteArray} {ret : Option FieldType} {As : List Value} {post : yPost}
theorem j_callX (cx : Cx p s m args c cc nL own Ts Z) {b L : Nat} {xs : Nat → Int32} (hX : va_X b L xs s s.heap) (hb0 : b < s.heap.size ∧ ¬ Z.2.2.1 ≤ b) (hM : CtX l y ws rm mc ms Z b L xs As al sh S post) (hT : GoodIn Ts (va_wsS own idx y ws)) (hw : ws = Cond.code y bytes maxL ret :: ws') (hrc : rm.cells = mc) (hrs : rm.slots = ms)
    (hd : y.cls ≠ "java/lang/invoke/MethodHandle" ∧ y.cls ≠ "java/lang/invoke/VarHandle" ∧ (parseMethodDescriptor y.desc).map (fun d => d.parameters.length) = some As.length) (hR : rm.frames + 1 ≤ R.frames ∧ 8 + (maxL + 11) + rm.locals ≤ R.locals)
    {st0 : List Value} (hst : st0 = As.reverse ++ rest) (hsum : (rest.map fun v => v.category).sum ≤ 8) (d : decode cc pc = .ok (.invokestatic idx, 3)) (hf : cells + mc ≤ R.cells ∧ slots + ms ≤ R.slots) (hp : pc + 3 = pc')
    (kk : ∀ v al' sh' S', post v al' sh' S' → J p l e R s m args below meth c nL Z (cells + mc) (slots + ms) Q al' sh' S' pc' lv (v.toList ++ rest)) : J p l e R s m args below meth c nL Z cells slots Q al sh S pc lv st0 := by
  subst hst
  refine J.behind (a := As.toArray) hp (fun H locs ls hW hS hl => ?_) kk
  refine va_runS cx.1 hM (va_cwS As.length cx.1.2.2.2.2 hT hw hrc hrs hd hR) ⟨PnX.blind, fun U hU hw => ⟨Pn.at cx hW hS U hU hw, ?_, ?_, hb0.2⟩⟩ rfl rfl hl.1 rfl (lv_room hsum) d hf
  · rw [hU]
    exact (hX.moved hw.alike).kept (hS.2.1 b hb0.1 hb0.2)
  · rw [hU]
    exact Nat.lt_of_lt_of_le hb0.1 hS.1
end JCELL
theorem d2_cell : yL_cell.cls ≠ "java/lang/invoke/MethodHandle" ∧ yL_cell.cls ≠ "java/lang/invoke/VarHandle" ∧ (parseMethodDescriptor yL_cell.desc).map (fun d => d.parameters.length) = some 2 := by decide +kernel
def cellV (L : Nat) (xs : Nat → Int32) (e : Nat) : Int32 := if e < L then xs e else 40503 * nI e + 2153
set_option maxHeartbeats 4000000 in
set_option maxRecDepth 100000 in
theorem c_L_cell {l : Launch} {Z : yL} {b L : Nat} {xs : Nat → Int32} {al : yAl} {sh : ySh} {S : yS} {e : Nat} (hL : L ≤ 2048) (he : e < 1000) : CtX l yL_cell wsL_cell ({ frames := 0, cells := 0, slots := 0, locals := 0 }) 0 0 Z b L xs [.ref b, .int (nI e)] al sh S (yR al sh (some (.int (cellV L xs e))) S) := by
  refine CtX.of (lv := [(0, .ref b), (1, .int (nI e))]) (by decide) rfl (Nat.le_of_ble_eq_true rfl) rfl ?_
  intro p_ e_ s_ m_ below_ meth_ c_ cx hX hb0 hlk hr hnm9
  refine j_iload_n (j := 1) cx dL_cell_0 rfl rfl (pc' := 1) rfl ?_
  refine j_aload_n (j := 0) cx dL_cell_1 rfl rfl (pc' := 2) rfl ?_
  refine j_slen cx hX hb0 dL_cell_2 (pc' := 3) rfl ?_
  refine j_icmp_ge (tgt := 12) cx dL_cell_3 (by decide) (pc' := 6) rfl (fun h1 => ?_) (fun h1 => ?_)
  · have h2 : ¬ e < L := fun q => nI_ge q (by omega) h1
    refine j_ldc (v := 40503) cx (by decide +kernel) dL_cell_12 (pc' := 14) rfl ?_
    refine j_iload_n (j := 1) cx dL_cell_14 rfl rfl (pc' := 15) rfl ?_
    refine j_imul cx dL_cell_15 (pc' := 16) rfl ?_
    refine j_sipush (v := 2153) cx dL_cell_16 (by decide) (pc' := 19) rfl ?_
    refine j_iadd cx dL_cell_19 (pc' := 20) rfl ?_
    exact j_iret (ty := .int) cx hlk hr rfl (Nat.le_of_ble_eq_true rfl) (Nat.le_of_ble_eq_true rfl) dL_cell_20 ⟨vI (by unfold cellV; rw [if_neg h2]), rfl, rfl, rfl⟩
  · have h2 : e < L := Nat.lt_of_not_le fun q => h1 (nI_le q (by omega))
    refine j_aload_n (j := 0) cx dL_cell_6 rfl rfl (pc' := 7) rfl ?_
    refine j_iload_n (j := 1) cx dL_cell_7 rfl rfl (pc' := 8) rfl ?_
    refine j_sld cx hX hb0 ⟨h2, hL⟩ dL_cell_8 (pc' := 9) rfl ?_
    refine j_goto (tgt := 20) cx dL_cell_9 (by decide) ?_
    exact j_iret (ty := .int) cx hlk hr rfl (Nat.le_of_ble_eq_true rfl) (Nat.le_of_ble_eq_true rfl) dL_cell_20 ⟨vI (by unfold cellV; rw [if_pos h2]), rfl, rfl, rfl⟩
/-- the world at the head of the law's loop -/
def LW (Z : yL) (x0 m0 : Nat) (e : Nat) (al : yAl) (sh : ySh) (S : yS) : Prop := al 0 0 = x0 ∧ al 40 0 = m0 ∧ YK Z al sh ∧ ∃ (ns : Nat) (mu : Nat → Nat), YC Z al sh 3 ns mu ∧ yFree sh 3 ns ∧ IN S S ns mu (60 * e) (12 * e)
theorem nI_lit {a n : Nat} {b : Int32} (hb : b = nI n) (h : a < n) (hn : n < 2 ^ 31) : ¬ b ≤ nI a := by
  subst hb
  exact nI_ge h hn
set_option maxHeartbeats 4000000 in
set_option maxRecDepth 100000 in
theorem law_loop {p : Program} {l : Launch} {e_ : Env} {s : State} {m : MethodId} {args : Array Value} {below : List Frame} {meth : Method} {c : Code} {Q : State → Prop} {Z : yL} {b L : Nat} {xs : Nat → Int32} (hl0 : l.stackTraces = false) (cx : Cx p s m args c cL_law 5 RL wsL_law Z) (hX : va_X b L xs s s.heap) (hb0 : b < s.heap.size ∧ ¬ Z.2.2.1 ≤ b) (hL : L ≤ 260) (hend : ∀ (al : yAl) (sh : ySh) (S : yS) (lv : List (Nat × Value)), J p l e_ room_1 s m args below meth c 5 Z 654075 7139243 Q al sh S 122 lv [.int 1]) {x0 m0 : Nat} : ∀ (k e : Nat) (al : yAl) (sh : ySh) (S : yS), e + k = 34 → LW Z x0 m0 e al sh S → J p l e_ room_1 s m args below meth c 5 Z (100 + 418 * e) (1000 + 2566 * e) Q al sh S 76 [(4, .int (nI e)), (3, .int 1), (2, .ref m0), (1, .ref x0), (0, .ref b)] [] := by
  intro k
  induction k with
  | zero =>
    intro e al sh S hek hW
    have hek2 : e = 34 := by omega
    subst hek2
    refine j_iload (j := 0) cx dL_law_76 rfl (pc' := 78) rfl ?_
    refine j_bipush (v := 34) cx dL_law_78 (by decide) (pc' := 80) rfl ?_
    refine j_icmp_ge (tgt := 121) cx dL_law_80 (by decide) (pc' := 83) rfl (fun _ => ?_) (fun hq9 => absurd (show (34 : Int32) ≤ nI 34 by decide) hq9)
    refine j_iload_n (j := 1) cx dL_law_121 rfl rfl (pc' := 122) rfl ?_
    exact J.widen (by omega) (by omega) (hend al sh S _)
  | succ k ih =>
    intro e al sh S hek hW
    have he : e < 34 := by omega
    obtain ⟨hx, hm, hK, ns, mu, hY, hFr, h⟩ := hW
    refine J.lve (lv' := [(4, .int (nI e)), (3, .int 1), (2, .ref (al 40 0)), (1, .ref (al 0 0)), (0, .ref b)]) (by rw [hx, hm]) ?_
    refine j_iload (j := 0) cx dL_law_76 rfl (pc' := 78) rfl ?_
    refine j_bipush (v := 34) cx dL_law_78 (by decide) (pc' := 80) rfl ?_
    refine j_icmp_ge (tgt := 121) cx dL_law_80 (by decide) (pc' := 83) rfl (fun hq9 => absurd hq9 (nI_lit (n := 34) (by decide) he (by decide))) (fun _ => ?_)
    refine j_iload_n (j := 1) cx dL_law_83 rfl rfl (pc' := 84) rfl ?_
    refine j_if_eq (tgt := 121) cx dL_law_84 (by decide) (pc' := 87) rfl (fun hq9 => absurd hq9 (by decide)) (fun _ => ?_)
    refine j_aload_n (j := 3) cx dL_law_87 rfl rfl (pc' := 88) rfl ?_
    refine j_aload_n (j := 2) cx dL_law_88 rfl rfl (pc' := 89) rfl ?_
    refine j_aload_n (j := 4) cx dL_law_89 rfl rfl (pc' := 90) rfl ?_
    refine j_iload (j := 0) cx dL_law_90 rfl (pc' := 92) rfl ?_
    refine j_callX (As := [.ref b, .int (nI e)]) (rest := [.ref (al 40 0), .ref (al 0 0)]) cx hX hb0 (c_L_cell (by omega) (by omega)) gL_law_L_cell rfl rfl rfl d2_cell ⟨(Nat.le_of_ble_eq_true rfl), (Nat.le_of_ble_eq_true rfl)⟩ rfl (Nat.le_of_ble_eq_true rfl) dL_law_92 ⟨(by show 100 + 418 * e + 0 ≤ 654075; omega), (by show 1000 + 2566 * e + 0 ≤ 7139243; omega)⟩ (pc' := 95) rfl (fun v9 al9 sh9 S9 h9 => ?_)
    obtain ⟨e1, e2, e3, e4⟩ := h9
    subst v9 al9 sh9 S9
    generalize cellV L xs e = v
    refine J.stk (st2 := [.int v, .ref (al 40 0), .ref (al 0 0)]) rfl ?_
    refine j_cSP (cells1 := 100 + 418 * e + 0 + 7) (slots1 := 1000 + 2566 * e + 0 + 100) (As := [.ref (al 0 0), .ref (al 40 0), .int v]) (rest := []) cx (c_L_acts hl0 hY hK h hFr (by omega) (by omega)) gL_law_L_acts rfl rfl rfl 3 rfl (by decide +kernel) ⟨(Nat.le_of_ble_eq_true rfl), (Nat.le_of_ble_eq_true rfl)⟩ rfl (Nat.le_of_ble_eq_true rfl) dL_law_95 ⟨(by show 100 + 418 * e + 0 + 7 ≤ 654075; omega), (by show 1000 + 2566 * e + 0 + 100 ≤ 7139243; omega)⟩ (pc' := 98) rfl rfl rfl (fun v9 al9 sh9 S9 h9 => ?_)
    obtain ⟨e1, ns2, mu2, hY2, hF2, hK2, ha2, hm2, h2⟩ := h9
    subst v9
    refine J.stk (st2 := [.int 1]) rfl ?_
    refine j_if_eq (tgt := 113) cx dL_law_98 (by decide) (pc' := 101) rfl (fun hq9 => absurd hq9 (by decide)) (fun _ => ?_)
    refine J.lve (lv' := [(4, .int (nI e)), (3, .int 1), (2, .ref (al9 40 0)), (1, .ref (al9 0 0)), (0, .ref b)]) (by rw [ha2, hm2]) ?_
    refine j_aload_n (j := 3) cx dL_law_101 rfl rfl (pc' := 102) rfl ?_
    refine j_aload_n (j := 2) cx dL_law_102 rfl rfl (pc' := 103) rfl ?_
    refine j_cSR (cells1 := 100 + 418 * e + 0 + 7 + 411) (slots1 := 1000 + 2566 * e + 0 + 100 + 2466) (st1 := [.int 1]) (As := [.ref (al9 0 0), .ref (al9 40 0)]) (rest := []) cx (c_L_agrees hl0 hY2 hK2 h2) gL_law_L_agrees rfl rfl rfl 2 rfl (by decide +kernel) ⟨(Nat.le_of_ble_eq_true rfl), (Nat.le_of_ble_eq_true rfl)⟩ rfl (Nat.le_of_ble_eq_true rfl) dL_law_103 ⟨(by show 100 + 418 * e + 0 + 7 + 411 ≤ 654075; omega), (by show 1000 + 2566 * e + 0 + 100 + 2466 ≤ 7139243; omega)⟩ (pc' := 106) rfl rfl rfl rfl ?_
    refine j_if_eq (tgt := 113) cx dL_law_106 (by decide) (pc' := 109) rfl (fun hq9 => absurd hq9 (by decide)) (fun _ => ?_)
    refine j_iconst (v := 1) cx dL_law_109 (by decide) (pc' := 110) rfl ?_
    refine j_goto (tgt := 114) cx dL_law_110 (by decide) ?_
    refine j_istore_n (lv' := [(3, .int 1), (4, .int (nI e)), (2, .ref (al9 40 0)), (1, .ref (al9 0 0)), (0, .ref b)]) cx dL_law_114 rfl (by decide) rfl (pc' := 115) rfl ?_
    refine j_iinc (j := 1) (v := nI (e + 1)) (lv' := [(4, .int (nI (e + 1))), (3, .int 1), (2, .ref (al9 40 0)), (1, .ref (al9 0 0)), (0, .ref b)]) cx dL_law_115 rfl (nI_1 e) (by decide) rfl (pc' := 118) rfl ?_
    refine j_goto (tgt := 76) cx dL_law_118 (by decide) ?_
    refine J.lve (lv' := [(4, .int (nI (e + 1))), (3, .int 1), (2, .ref m0), (1, .ref x0), (0, .ref b)]) (by rw [ha2, hm2, hx, hm]) ?_
    exact J.widen (by omega) (by omega) (ih (e + 1) al9 sh9 S9 (by omega) ⟨ha2.trans hx, hm2.trans hm, hK2, ns2, mu2, hY2, hF2, h2.weak (by omega) (by omega)⟩)
/-- the numbers while the machines are added -/
def IM (S : yS) (m : Nat) : Prop := S 9 0 2 = nI m ∧ S 1 0 0 = 15 ∧ S 2 0 0 = 50 ∧ (∀ i, i < m → S 20 i 1 = 0 ∧ S 20 i 2 = 1 ∧ S 20 i 3 = 4 ∧ S 20 i 4 = 117 ∧ S 20 i 5 = 0) ∧ ∀ a b j, a ≠ 1 → a ≠ 2 → a ≠ 9 → a ≠ 10 → a ≠ 20 → S a b j = 0
theorem IM.done {S : yS} {mu : Nat → Nat} (h : IM S 3) : IN S S 0 mu 0 0 := by
  obtain ⟨h9, h1, h2, hm, hz⟩ := h
  have z : ∀ a b j, a ≠ 1 → a ≠ 2 → a ≠ 9 → a ≠ 10 → a ≠ 20 → S a b j = 0 := hz
  have v0 : vp_in (0 : Int32) 4 := by unfold vp_in; decide
  refine ⟨⟨?_, ?_, ?_⟩, fun u _ => ⟨?_, ?_⟩, fun d _ => ?_, fun d e _ _ => ?_, fun i hi => absurd hi (by omega), fun i d hi => absurd hi (by omega), ⟨fun i _ => ?_, fun i d _ _ _ => ?_⟩, ⟨h9, ?_, ?_, by omega⟩, ⟨h1, h2⟩, fun m hm3 => ?_, fun i j hi => absurd hi (by omega), fun d _ => ?_, ?_, ⟨fun d _ => ?_, ?_⟩, ?_⟩
  · rw [z 0 0 9 (by decide) (by decide) (by decide) (by decide) (by decide), z 40 0 13 (by decide) (by decide) (by decide) (by decide) (by decide)]
  · rw [z 0 0 10 (by decide) (by decide) (by decide) (by decide) (by decide), z 40 0 11 (by decide) (by decide) (by decide) (by decide) (by decide)]
  · rw [z 3 0 1 (by decide) (by decide) (by decide) (by decide) (by decide), z 40 0 10 (by decide) (by decide) (by decide) (by decide) (by decide)]
  · rw [z 4 0 u (by decide) (by decide) (by decide) (by decide) (by decide), z 44 0 u (by decide) (by decide) (by decide) (by decide) (by decide)]
  · rw [z 4 0 u (by decide) (by decide) (by decide) (by decide) (by decide)]; exact v0
  · rw [z 5 0 d (by decide) (by decide) (by decide) (by decide) (by decide), z 41 0 d (by decide) (by decide) (by decide) (by decide) (by decide)]
  · rw [z 8 d e (by decide) (by decide) (by decide) (by decide) (by decide), z 43 d e (by decide) (by decide) (by decide) (by decide) (by decide)]
  · exact z 49 0 i (by decide) (by decide) (by decide) (by decide) (by decide)
  · exact z 51 i d (by decide) (by decide) (by decide) (by decide) (by decide)
  · rw [z 11 0 2 (by decide) (by decide) (by decide) (by decide) (by decide)]; rfl
  · rw [z 40 0 3 (by decide) (by decide) (by decide) (by decide) (by decide)]; rfl
  · obtain ⟨a1, a2, a3, a4, a5⟩ := hm m hm3
    exact ⟨a1, a2, a3, a4, a5⟩
  · show gBy (S 6) (S 8) d = S 5 0 d
    unfold gBy
    simp only [z 6 0 d (by decide) (by decide) (by decide) (by decide) (by decide), z 5 0 d (by decide) (by decide) (by decide) (by decide) (by decide), fun a b => z 8 a b (by decide) (by decide) (by decide) (by decide) (by decide)]
    rfl
  · exact z 40 0 12 (by decide) (by decide) (by decide) (by decide) (by decide)
  · rw [z 5 0 d (by decide) (by decide) (by decide) (by decide) (by decide)]; decide
  · unfold s4
    rw [z 5 0 0 (by decide) (by decide) (by decide) (by decide) (by decide), z 5 0 1 (by decide) (by decide) (by decide) (by decide) (by decide), z 5 0 2 (by decide) (by decide) (by decide) (by decide) (by decide), z 5 0 3 (by decide) (by decide) (by decide) (by decide) (by decide)]
    decide
  · unfold iH
    rw [z 0 0 9 (by decide) (by decide) (by decide) (by decide) (by decide)]
    decide
theorem n_add {l : Launch} (hl0 : l.stackTraces = false) {Z : yL} {al : yAl} {sh : ySh} {S : yS} {nm : Nat} {mu : Nat → Nat} (hY : YC Z al sh nm 0 mu) (hs9 : S 9 0 2 = nI nm) (hFr : yFree sh nm 0) (hn : nm < 3) : Ct l yX2_addMachine wsX2_addMachine ({ frames := 7, cells := 3, slots := 78, locals := 171 }) 3 78 Z [.ref (al 0 0), .int 0, .int 1, .int 4] al sh S (aPost Z al sh S nm 0 mu 0 1 4) :=
  (c_X2_addMachine hl0 hY hs9 hFr (p := 0) (r := 1) (s := 4)).ct (yx_no (by unfold kAdd; rw [if_neg (by decide), if_neg (by omega)]) (by decide))
theorem IM.add {S S9 : yS} {m : Nat} (h : IM S m) (h9 : S9 9 0 2 = nI (m + 1)) (h20 : ∀ j, S9 20 m j = fMac (szero S 20 m) m (nI m) 0 1 4 20 m j) (hS : ∀ a b j, a ≠ 9 → a ≠ 10 → ¬ (a = 20 ∧ b = m) → S9 a b j = S a b j) : IM S9 (m + 1) := by
  obtain ⟨-, h1, h2, hm, hz⟩ := h
  refine ⟨h9, (hS 1 0 0 (by decide) (by decide) (by omega)).trans h1, (hS 2 0 0 (by decide) (by decide) (by omega)).trans h2, fun i hi => ?_, fun a b j a1 a2 a3 a4 a5 => (hS a b j a3 a4 (fun q => a5 q.1)).trans (hz a b j a1 a2 a3 a4 a5)⟩
  by_cases q : i = m
  · subst q
    rw [h20, h20, h20, h20, h20]
    simp [fMac, sup]
  · rw [hS 20 i 1 (by decide) (by decide) (fun z => q z.2), hS 20 i 2 (by decide) (by decide) (fun z => q z.2), hS 20 i 3 (by decide) (by decide) (fun z => q z.2), hS 20 i 4 (by decide) (by decide) (fun z => q z.2), hS 20 i 5 (by decide) (by decide) (fun z => q z.2)]
    exact hm i (by omega)
set_option maxHeartbeats 4000000 in
set_option maxRecDepth 100000 in
theorem law_mac {p : Program} {l : Launch} {e_ : Env} {s : State} {m : MethodId} {args : Array Value} {below : List Frame} {meth : Method} {c : Code} {Q : State → Prop} {Z : yL} {b L : Nat} {xs : Nat → Int32} (hl0 : l.stackTraces = false) (cx : Cx p s m args c cL_law 5 RL wsL_law Z) (hX : va_X b L xs s s.heap) (hb0 : b < s.heap.size ∧ ¬ Z.2.2.1 ≤ b) (hL : L ≤ 260) (hend : ∀ (al : yAl) (sh : ySh) (S : yS) (lv : List (Nat × Value)), J p l e_ room_1 s m args below meth c 5 Z 654075 7139243 Q al sh S 122 lv [.int 1]) {x0 m0 : Nat} : ∀ (k q : Nat) (al : yAl) (sh : ySh) (S : yS), q + k = 3 → al 0 0 = x0 → al 40 0 = m0 → YK Z al sh → YC Z al sh q 0 (fun _ => 0) → yFree sh q 0 → IM S q → J p l e_ room_1 s m args below meth c 5 Z (80 + 3 * q) (700 + 78 * q) Q al sh S 39 [(4, .int (nI q)), (3, .int 1), (2, .ref m0), (1, .ref x0), (0, .ref b)] [] := by
  intro k
  induction k with
  | zero =>
    intro q al sh S hqk hx hm hK hY hF hI
    have hq2 : q = 3 := by omega
    subst hq2
    refine j_iload (j := 0) cx dL_law_39 rfl (pc' := 41) rfl ?_
    refine j_iconst (v := 3) cx dL_law_41 (by decide) (pc' := 42) rfl ?_
    refine j_icmp_ge (tgt := 73) cx dL_law_42 (by decide) (pc' := 45) rfl (fun _ => ?_) (fun hq9 => absurd (show (3 : Int32) ≤ nI 3 by decide) hq9)
    refine j_iconst (v := 0) cx dL_law_73 (by decide) (pc' := 74) rfl ?_
    refine j_istore (lv' := [(4, .int (nI 0)), (3, .int 1), (2, .ref m0), (1, .ref x0), (0, .ref b)]) cx dL_law_74 (by decide) rfl (pc' := 76) rfl ?_
    exact J.widen (by omega) (by omega) (law_loop hl0 cx hX hb0 hL hend 34 0 al sh S rfl ⟨hx, hm, hK, 0, (fun _ => 0), hY, hF, hI.done⟩)
  | succ k ih =>
    intro q al sh S hqk hx hm hK hY hF hI
    have hq : q < 3 := by omega
    refine J.lve (lv' := [(4, .int (nI q)), (3, .int 1), (2, .ref (al 40 0)), (1, .ref (al 0 0)), (0, .ref b)]) (by rw [hx, hm]) ?_
    refine j_iload (j := 0) cx dL_law_39 rfl (pc' := 41) rfl ?_
    refine j_iconst (v := 3) cx dL_law_41 (by decide) (pc' := 42) rfl ?_
    refine j_icmp_ge (tgt := 73) cx dL_law_42 (by decide) (pc' := 45) rfl (fun hq9 => absurd hq9 (nI_lit (n := 3) (by decide) hq (by decide))) (fun _ => ?_)
    refine j_iload_n (j := 1) cx dL_law_45 rfl rfl (pc' := 46) rfl ?_
    refine j_if_eq (tgt := 65) cx dL_law_46 (by decide) (pc' := 49) rfl (fun hq9 => absurd hq9 (by decide)) (fun _ => ?_)
    refine j_aload_n (j := 3) cx dL_law_49 rfl rfl (pc' := 50) rfl ?_
    refine j_iconst (v := 0) cx dL_law_50 (by decide) (pc' := 51) rfl ?_
    refine j_iconst (v := 1) cx dL_law_51 (by decide) (pc' := 52) rfl ?_
    refine j_iconst (v := 4) cx dL_law_52 (by decide) (pc' := 53) rfl ?_
    refine j_cVP (cells1 := 80 + 3 * q + 3) (slots1 := 700 + 78 * q + 78) (As := [.int 0, .int 1, .int 4]) (rest := []) cx (n_add hl0 hY hI.1 hF hq) gL_law_X2_addMachine rfl rfl rfl 3 rfl (by decide +kernel) ⟨(Nat.le_of_ble_eq_true rfl), (Nat.le_of_ble_eq_true rfl)⟩ hY.1 rfl rfl rfl rfl (Nat.le_of_ble_eq_true rfl) dL_law_53 ⟨(by show 80 + 3 * q + 3 ≤ 654075; omega), (by show 700 + 78 * q + 78 ≤ 7139243; omega)⟩ (pc' := 56) rfl rfl rfl (fun v9 al9 sh9 S9 h9 => ?_)
    obtain ⟨-, e1, hY2, hF2, hk4, ha2, h9', h20, hS9⟩ := h9
    subst v9
    have hm2 : al9 40 0 = al 40 0 := (hk4 40 0 (by decide)).1
    refine J.stk (st2 := [.int (nI q)]) rfl ?_
    refine J.lve (lv' := [(4, .int (nI q)), (3, .int 1), (2, .ref (al9 40 0)), (1, .ref (al9 0 0)), (0, .ref b)]) (by rw [ha2, hm2]) ?_
    refine j_iload (j := 0) cx dL_law_56 rfl (pc' := 58) rfl ?_
    refine j_icmp_ne (tgt := 65) cx dL_law_58 (by decide) (pc' := 61) rfl (fun hq9 => absurd rfl hq9) (fun _ => ?_)
    refine j_iconst (v := 1) cx dL_law_61 (by decide) (pc' := 62) rfl ?_
    refine j_goto (tgt := 66) cx dL_law_62 (by decide) ?_
    refine j_istore_n (lv' := [(3, .int 1), (4, .int (nI q)), (2, .ref (al9 40 0)), (1, .ref (al9 0 0)), (0, .ref b)]) cx dL_law_66 rfl (by decide) rfl (pc' := 67) rfl ?_
    refine j_iinc (j := 1) (v := nI (q + 1)) (lv' := [(4, .int (nI (q + 1))), (3, .int 1), (2, .ref (al9 40 0)), (1, .ref (al9 0 0)), (0, .ref b)]) cx dL_law_67 rfl (nI_1 q) (by decide) rfl (pc' := 70) rfl ?_
    refine j_goto (tgt := 39) cx dL_law_70 (by decide) ?_
    refine J.lve (lv' := [(4, .int (nI (q + 1))), (3, .int 1), (2, .ref m0), (1, .ref x0), (0, .ref b)]) (by rw [ha2, hm2, hx, hm]) ?_
    exact J.widen (by omega) (by omega) (ih (q + 1) al9 sh9 S9 (by omega) (ha2.trans hx) (hm2.trans hm) (hK.to (fun a b hab => hk4 a b hab)) hY2 hF2 (hI.add h9' h20 hS9))
abbrev S00 : yS := fun _ _ _ => 0
theorem szero_z {T : yS} {c d a b j : Nat} (h : T a b j = 0) : szero T c d a b j = 0 := by
  unfold szero
  split
  · rfl
  · exact h
theorem sup_z0 {T : yS} {c d k a b j : Nat} (h : T a b j = 0) : sup T c d k 0 a b j = 0 := by
  unfold sup
  split
  · rfl
  · exact h
theorem sup_z {T : yS} {c d k a b j : Nat} {v : Int32} (g : a ≠ c) (h : T a b j = 0) : sup T c d k v a b j = 0 := by
  rw [sup_off _ _ (fun q => g q.1)]
  exact h
theorem Sini_z {a b j : Nat} (h1 : a ≠ 1) (h2 : a ≠ 2) : kIni (szero (yIni (szero S00 0 0)) 40 0) a b j = 0 := by
  unfold kIni yIni S5
  repeat (first | apply SR_z | apply szero_z | apply sup_z0 | apply sup_z h1 | apply sup_z h2)
  rfl
theorem Sini_30 : kIni (szero (yIni (szero S00 0 0)) 40 0) 1 0 0 = 30 := by
  unfold kIni
  repeat (first | rw [SR_ne (by decide)] | rw [szero_o (by decide)])
  simp [yIni, sup]
theorem YL.alto {Z : yL} {al al' : yAl} {sh : ySh} {k kd n : Nat} (h : YL Z al sh k kd n) (h2 : ∀ i, al' kd i = al kd i) : YL Z al' sh k kd n := h.to rfl (fun _ => rfl) (fun i _ => h2 i)
theorem YC.to2 {Z : yL} {al al' : yAl} {sh sh' : ySh} {nm ns : Nat} {mu : Nat → Nat} (h : YC Z al sh nm ns mu) (hk : ∀ a b, a < 40 → al' a b = al a b ∧ sh' a b = sh a b) (h99 : al' 99 0 = al 99 0) : YC Z al' sh' nm ns mu := by
  obtain ⟨a1, a2, a3, a4, a5, a6, a7, ⟨f, a8, a8'⟩, a9, a10, a11, a12, a13, a14, a15, a16, a17, a18⟩ := h
  exact ⟨(hk _ _ (by omega)).2.trans a1, (hk _ _ (by omega)).2.trans a2, (hk _ _ (by omega)).2.trans a3, (hk _ _ (by omega)).2.trans a4, (hk _ _ (by omega)).2.trans a5, (hk _ _ (by omega)).2.trans a6, (hk _ _ (by omega)).2.trans a7, ⟨f, (hk _ _ (by omega)).2.trans a8, fun d hd => (a8' d hd).trans (congrArg some (hk 8 d (by decide)).1.symm)⟩, fun d hd => (hk _ _ (by omega)).2.trans (a9 d hd), (a10.alto (fun i => (hk 20 i (by decide)).1)).to (hk _ _ (by omega)).2 (fun b => (hk _ _ (by omega)).2) (fun i _ => rfl), (a11.alto (fun i => (hk 21 i (by decide)).1)).to (hk _ _ (by omega)).2 (fun b => (hk _ _ (by omega)).2) (fun i _ => rfl), fun i hi => (hk _ _ (by omega)).2.trans (a12 i hi), fun i hi => (hk _ _ (by omega)).2.trans (a13 i hi), fun i hi => (hk _ _ (by omega)).2.trans (a14 i hi), a15, h99.trans a16, a17, a18⟩
theorem yFree.to {sh sh' : ySh} {nm ns : Nat} (h : yFree sh nm ns) (hk : ∀ a b, a < 40 → sh' a b = sh a b) : yFree sh' nm ns :=
  ⟨fun b hb => (hk _ _ (by omega)).trans (h.1 b hb), fun b hb => ⟨(hk _ _ (by omega)).trans (h.2 b hb).1, (hk _ _ (by omega)).trans (h.2 b hb).2⟩⟩
theorem n_set {l : Launch} (hl0 : l.stackTraces = false) {Z : yL} {al : yAl} {sh : ySh} {S : yS} {nm ns : Nat} {mu : Nat → Nat} (hY : YC Z al sh nm ns mu) (h30 : S 1 0 0 = 30) : Ct l yX2_setLimits wsX2_setLimits ({ frames := 7, cells := 2, slots := 12, locals := 110 }) 2 12 Z [.ref (al 0 0), .int 0, .int 15, .int 50] al sh S (yR al sh (some (.int 30)) (sup (sup S 1 0 0 15) 2 0 0 50)) := by
  have k := c_X2_setLimits hl0 (S := S) hY (p := 0) (i := 15) (h := 50)
  rw [show (0 : Int32).toNatClampNeg = 0 by decide] at k
  exact k.ctR (yx_no (by decide) (by decide)) (vI h30)
set_option maxHeartbeats 4000000 in
set_option maxRecDepth 100000 in
theorem law_begin {p : Program} {l : Launch} {e_ : Env} {s : State} {m : MethodId} {args : Array Value} {below : List Frame} {meth : Method} {c : Code} {Q : State → Prop} {Z : yL} {b L : Nat} {xs : Nat → Int32} (hl0 : l.stackTraces = false) (cx : Cx p s m args c cL_law 5 RL wsL_law Z) (hX : va_X b L xs s s.heap) (hb0 : b < s.heap.size ∧ ¬ Z.2.2.1 ≤ b) (hL : L ≤ 260) (hend : ∀ (al : yAl) (sh : ySh) (S : yS) (lv : List (Nat × Value)), J p l e_ room_1 s m args below meth c 5 Z 654075 7139243 Q al sh S 122 lv [.int 1]) {al : yAl} (hE : al 99 0 = Z.2.2.2.1) : J p l e_ room_1 s m args below meth c 5 Z 0 0 Q al (fun _ _ => none) S00 0 [(0, .ref b)] [] := by
  refine j_new (C := RX2) (T := TX2) (N := 11) (ci := 5) cx 0 0 rfl (by decide) rfl (by decide +kernel) tyX2 tyX2_ok (by decide +kernel) (by decide +kernel) (by decide +kernel) (tg := tgY0) (by decide) (fun j k => by unfold tgY0; split <;> simp) (by decide) (Nat.le_of_ble_eq_true rfl) (Nat.le_of_ble_eq_true rfl) dL_law_0 (pc' := 3) rfl (fun q0 => ?_)
  refine j_dup cx dL_law_3 rfl (pc' := 4) rfl ?_
  refine j_cIP (al := (alp al 0 0 q0)) (sh := (shp (fun _ _ => none) 0 0 (.inl (5, tgY0)))) (S := szero S00 0 0) (cells1 := 0 + 1 + 13) (slots1 := 0 + 11 + 80) (As := []) (rest := [.ref q0]) cx (c_X2_init (mu := fun _ => 0) (shp_self _ _ _ _) (fun a b h1 h2 => shp_ne _ _ (by omega)) ((alp_ne _ _ (by decide)).trans hE) (alp_self _ _ _ _).symm) gL_law_X2_init rfl rfl rfl 0 rfl (by decide +kernel) (by decide +kernel) (by decide +kernel) rfl (by decide +kernel) ⟨(Nat.le_of_ble_eq_true rfl), (Nat.le_of_ble_eq_true rfl)⟩ rfl (Nat.le_of_ble_eq_true rfl) dL_law_4 ⟨(Nat.le_of_ble_eq_true rfl), (Nat.le_of_ble_eq_true rfl)⟩ (pc' := 7) rfl rfl rfl (fun v9 al1 sh1 S1 h9 => ?_)
  obtain ⟨e1, hY1, hF1, hk1, hr1, e2⟩ := h9
  subst v9 S1
  refine J.stk (st2 := [.ref q0]) rfl ?_
  refine j_astore_n (lv' := [(1, .ref q0), (0, .ref b)]) cx dL_law_7 rfl (by decide) rfl (pc' := 8) rfl ?_
  have h40 : ∀ a b, 40 ≤ a → sh1 a b = none := fun a b h => (hk1 a b h).2.trans (shp_ne _ _ (by omega))
  refine j_new (C := RX3) (T := TX3) (N := 14) (ci := 6) cx 40 0 (h40 40 0 (by decide)) (by decide) rfl (by decide +kernel) tyX3 tyX3_ok (by decide +kernel) (by decide +kernel) (by decide +kernel) (tg := tgB0) (by decide) (fun j k => by unfold tgB0; split <;> simp) (by decide) (Nat.le_of_ble_eq_true rfl) (Nat.le_of_ble_eq_true rfl) dL_law_8 (pc' := 11) rfl (fun q40 => ?_)
  refine j_dup cx dL_law_11 rfl (pc' := 12) rfl ?_
  refine j_cIPN (al := alp al1 40 0 q40) (sh := shp sh1 40 0 (.inl (6, tgB0))) (S := szero (yIni (szero S00 0 0)) 40 0) (cells1 := 0 + 1 + 13 + 1 + 53) (slots1 := 0 + 11 + 80 + 14 + 434) (rest := [.ref q40]) cx rfl (c_X3_init (shp_self _ _ _ _) (fun a b h1 h2 => (shp_ne _ _ (by omega)).trans (h40 a b (by omega))) (alp_self _ _ _ _).symm) gL_law_X3_init_n172 rfl rfl rfl (by decide +kernel) (by decide +kernel) ⟨(Nat.le_of_ble_eq_true rfl), (Nat.le_of_ble_eq_true rfl)⟩ rfl (Nat.le_of_ble_eq_true rfl) dL_law_12 ⟨(Nat.le_of_ble_eq_true rfl), (Nat.le_of_ble_eq_true rfl)⟩ (pc' := 15) rfl rfl rfl (fun v9 al2 sh2 S2 h9 => ?_)
  obtain ⟨e1, hK2, hk2, hr2, e2⟩ := h9
  subst v9 S2
  refine J.stk (st2 := [.ref q40]) rfl ?_
  refine j_astore_n (lv' := [(2, .ref q40), (1, .ref q0), (0, .ref b)]) cx dL_law_15 rfl (by decide) rfl (pc' := 16) rfl ?_
  have g2 : ∀ a b, a < 40 → al2 a b = al1 a b ∧ sh2 a b = sh1 a b := fun a b h => ⟨(hk2 a b (by omega)).1.trans (alp_ne _ _ (by omega)), (hk2 a b (by omega)).2.trans (shp_ne _ _ (by omega))⟩
  have hY2 : YC Z al2 sh2 0 0 (fun _ => 0) := hY1.to2 g2 ((hk2 99 0 (by decide)).1.trans (alp_ne _ _ (by decide)))
  have hF2 : yFree sh2 0 0 := hF1.to (fun a b h => (g2 a b h).2)
  have hx : al2 0 0 = q0 := (g2 0 0 (by decide)).1.trans (hr1.trans (alp_self _ _ _ _))
  have hm : al2 40 0 = q40 := hr2.trans (alp_self _ _ _ _)
  refine J.lve (lv' := [(2, .ref (al2 40 0)), (1, .ref (al2 0 0)), (0, .ref b)]) (by rw [hx, hm]) ?_
  refine j_aload_n (j := 1) cx dL_law_16 rfl rfl (pc' := 17) rfl ?_
  refine j_iconst (v := 0) cx dL_law_17 (by decide) (pc' := 18) rfl ?_
  refine j_bipush (v := 15) cx dL_law_18 (by decide) (pc' := 20) rfl ?_
  refine j_bipush (v := 50) cx dL_law_20 (by decide) (pc' := 22) rfl ?_
  refine j_cVR (cells1 := 0 + 1 + 13 + 1 + 53 + 2) (slots1 := 0 + 11 + 80 + 14 + 434 + 12) (st1 := [.int 30]) (As := [.int 0, .int 15, .int 50]) (rest := []) cx (n_set hl0 hY2 Sini_30) gL_law_X2_setLimits rfl rfl rfl 3 rfl (by decide +kernel) ⟨(Nat.le_of_ble_eq_true rfl), (Nat.le_of_ble_eq_true rfl)⟩ hY2.1 rfl rfl rfl rfl (Nat.le_of_ble_eq_true rfl) dL_law_22 ⟨(Nat.le_of_ble_eq_true rfl), (Nat.le_of_ble_eq_true rfl)⟩ (pc' := 25) rfl rfl rfl rfl ?_
  refine j_bipush (v := 30) cx dL_law_25 (by decide) (pc' := 27) rfl ?_
  refine j_icmp_ne (tgt := 34) cx dL_law_27 (by decide) (pc' := 30) rfl (fun hq9 => absurd rfl hq9) (fun _ => ?_)
  refine j_iconst (v := 1) cx dL_law_30 (by decide) (pc' := 31) rfl ?_
  refine j_goto (tgt := 35) cx dL_law_31 (by decide) ?_
  refine j_istore_n (lv' := [(3, .int 1), (2, .ref (al2 40 0)), (1, .ref (al2 0 0)), (0, .ref b)]) cx dL_law_35 rfl (by decide) rfl (pc' := 36) rfl ?_
  refine j_iconst (v := 0) cx dL_law_36 (by decide) (pc' := 37) rfl ?_
  refine j_istore (lv' := [(4, .int (nI 0)), (3, .int 1), (2, .ref (al2 40 0)), (1, .ref (al2 0 0)), (0, .ref b)]) cx dL_law_37 (by decide) rfl (pc' := 39) rfl ?_
  refine J.widen (k := 80 + 3 * 0) (n := 700 + 78 * 0) (by omega) (by omega) (law_mac hl0 cx hX hb0 hL hend 3 0 al2 sh2 _ rfl rfl rfl hK2 hY2 hF2 ⟨?_, ?_, ?_, fun i hi => absurd hi (by omega), fun a b j a1 a2 _ _ _ => ?_⟩)
  · rw [sup_k (by decide), sup_k (by decide)]; exact Sini_z (by decide) (by decide)
  · rw [sup_k (by decide)]; exact sup_self _ _ _ _ _
  · exact sup_self _ _ _ _ _
  · rw [sup_k a2, sup_k a1]; exact Sini_z a1 a2
