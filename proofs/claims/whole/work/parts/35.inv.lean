/-! THE TWO SIDES AGREE: what holds of the numbers at the law's head. F, G .. are kinds: F b j -/
def cEq (F G : Nat → Nat → Int32) (n : Nat) : Prop := ∀ j, j < n → F 0 j = G 0 j
def cKb (F : Nat → Nat → Int32) (K : Nat) : Prop := ∀ j, j < 4 → 0 ≤ (F 0 j).toInt ∧ (F 0 j).toInt ≤ K
def cO (F G : Nat → Nat → Int32) : Prop := ∀ d e, d < 4 → e < 4 → F d e = G 0 (4 * d + e)
def gSub (F : Nat → Nat → Int32) (d i : Nat) (a : Int32) : Nat → Int32
  | 0 => a
  | k + 1 => gSub F d (i + 1) (a - F i d) k
def gIn (F : Nat → Nat → Int32) (i : Nat) : Int32 := 0 + F i 0 + F i 1 + F i 2 + F i 3
def gSum (F : Nat → Nat → Int32) (i : Nat) (a : Int32) : Nat → Int32
  | 0 => a
  | k + 1 => gSum F (i + 1) (a + gIn F i) k
def gBy (F6 F8 : Nat → Nat → Int32) (d : Nat) : Int32 := F6 0 d + (F8 d 0 - F8 0 d) + (F8 d 1 - F8 1 d) + (F8 d 2 - F8 2 d) + (F8 d 3 - F8 3 d)
def cB (F5 F6 F8 F22 : Nat → Nat → Int32) (ns : Nat) : Prop := ∀ d, d < 4 → gSub F22 d 0 (gBy F6 F8 d) ns = F5 0 d
def cC (F G : Nat → Nat → Int32) (ns : Nat) : Prop := (∀ i d, i < ns → d < 4 → F i d = G 0 (4 * i + d)) ∧ ∀ j, 4 * ns ≤ j → G 0 j = 0
def cM (F P R T H : Nat → Nat → Int32) (nm : Nat) : Prop := ∀ i, i < nm → F i 0 = nI i ∧ F i 1 = P 0 i ∧ F i 2 = R 0 i ∧ F i 3 = T 0 i ∧ (∃ n : Nat, 1 ≤ n ∧ n ≤ 4 ∧ T 0 i = nI n) ∧ F i 4 = H 0 i ∧ (H 0 i = 117 ∨ H 0 i = 103 ∨ H 0 i = 109)
def cV (F E M H : Nat → Nat → Int32) (nm ns : Nat) : Prop := ∀ i, i < nm → F i 5 = mOn (E 0) (M 0) (nI i) 0 0 ns ∧ (H 0 i = 103 → F i 5 ≠ 0)
def cS (F O U M B D E : Nat → Nat → Int32) (ns : Nat) (mu : Nat → Nat) : Prop := ∀ i, i < ns → F i 0 = O 0 i ∧ F i 2 = B 0 i ∧ F i 4 = U 0 i ∧ F i 5 = D 0 i ∧ M 0 i = nI (mu i) ∧ ((F i 6 = 97 ∧ E 0 i = 0) ∨ (F i 6 = E 0 i ∧ E 0 i ≠ 0 ∧ E 0 i ≠ 97))
def cE (E : Nat → Nat → Int32) (ns : Nat) : Prop := ∀ i, ns ≤ i → E 0 i = 0
def cX (F20 F21 : Nat → Nat → Int32) (nm ns : Nat) : Prop := (∀ i, i < nm → vp_in (F20 i 2) 3) ∧ (∀ i, i < nm → chOk (F20 i 4)) ∧ ∀ i, i < ns → chOk (F21 i 6)
def IN (S : yS) (nm ns : Nat) (mu : Nat → Nat) (K : Nat) : Prop := XI S nm ns ∧ CI S nm ns ∧ cX (S 20) (S 21) nm ns ∧ S 0 0 9 = S 40 0 1 ∧ S 0 0 10 = S 40 0 21 ∧ cEq (S 1) (S 42) 3 ∧ cEq (S 2) (S 43) 3 ∧ cEq (S 3) (S 60) 3 ∧ cEq (S 4) (S 51) 10 ∧ cEq (S 5) (S 49) 4 ∧ cKb (S 5) K ∧ cO (S 8) (S 50) ∧ cB (S 5) (S 6) (S 8) (S 22) ns ∧ cC (S 22) (S 58) ns ∧ S 40 0 22 = gSum (S 22) 0 0 ns ∧ cM (S 20) (S 45) (S 46) (S 47) (S 48) nm ∧ cV (S 20) (S 59) (S 55) (S 48) nm ns ∧ cS (S 21) (S 53) (S 54) (S 55) (S 56) (S 57) (S 59) ns mu ∧ cE (S 59) ns ∧ (∀ i, i < ns → mu i < nm) ∧ ∀ i, i < ns → vp_in (S 21 i 0) 10
/-- the world at the law's head -/
def WI (Z : yL) (x0 m0 o0 d0 : Nat) (K : Nat) (al : yAl) (sh : ySh) (S : yS) : Prop := al 0 0 = x0 ∧ al 40 0 = m0 ∧ al 70 0 = o0 ∧ al 71 0 = d0 ∧ (∃ f, sh 70 0 = some (yLo Z f)) ∧ (∃ f, sh 71 0 = some (yDo Z f)) ∧ YM Z sh ∧ ∃ (nm ns : Nat) (mu : Nat → Nat), YC Z al sh nm ns mu ∧ yFree sh nm ns ∧ IN S nm ns mu K
theorem YM.to {Z : yL} {sh sh' : ySh} (h : YM Z sh) (hk : ∀ a, 40 ≤ a → a ≤ 60 → sh' a 0 = sh a 0) : YM Z sh' := by
  obtain ⟨a1, a2, a3, a4, a5, a6, a7, a8, a9, a10, a11, a12, a13, a14, a15, a16, a17, a18⟩ := h
  exact ⟨(hk _ (by omega) (by omega)).trans a1, (hk _ (by omega) (by omega)).trans a2, (hk _ (by omega) (by omega)).trans a3, (hk _ (by omega) (by omega)).trans a4, (hk _ (by omega) (by omega)).trans a5, (hk _ (by omega) (by omega)).trans a6, (hk _ (by omega) (by omega)).trans a7, (hk _ (by omega) (by omega)).trans a8, (hk _ (by omega) (by omega)).trans a9, (hk _ (by omega) (by omega)).trans a10, (hk _ (by omega) (by omega)).trans a11, (hk _ (by omega) (by omega)).trans a12, (hk _ (by omega) (by omega)).trans a13, (hk _ (by omega) (by omega)).trans a14, (hk _ (by omega) (by omega)).trans a15, (hk _ (by omega) (by omega)).trans a16, (hk _ (by omega) (by omega)).trans a17, (hk _ (by omega) (by omega)).trans a18⟩
theorem YC.to {Z : yL} {al : yAl} {sh sh' : ySh} {nm ns : Nat} {mu : Nat → Nat} (h : YC Z al sh nm ns mu) (hk : ∀ a b, a < 40 → sh' a b = sh a b) : YC Z al sh' nm ns mu := by
  obtain ⟨a1, a2, a3, a4, a5, a6, a7, ⟨f, a8, a8'⟩, a9, a10, a11, a12, a13, a14, a15, a16, a17, a18⟩ := h
  exact ⟨(hk _ _ (by omega)).trans a1, (hk _ _ (by omega)).trans a2, (hk _ _ (by omega)).trans a3, (hk _ _ (by omega)).trans a4, (hk _ _ (by omega)).trans a5, (hk _ _ (by omega)).trans a6, (hk _ _ (by omega)).trans a7, ⟨f, (hk _ _ (by omega)).trans a8, a8'⟩, fun d hd => (hk _ _ (by omega)).trans (a9 d hd), a10.to (hk _ _ (by omega)) (fun b => hk _ _ (by omega)) (fun i _ => rfl), a11.to (hk _ _ (by omega)) (fun b => hk _ _ (by omega)) (fun i _ => rfl), fun i hi => (hk _ _ (by omega)).trans (a12 i hi), fun i hi => (hk _ _ (by omega)).trans (a13 i hi), fun i hi => (hk _ _ (by omega)).trans (a14 i hi), a15, a16, a17, a18⟩
theorem yFree.to {sh sh' : ySh} {nm ns : Nat} (h : yFree sh nm ns) (hk : ∀ a b, a < 40 → sh' a b = sh a b) : yFree sh' nm ns :=
  ⟨fun b hb => (hk _ _ (by omega)).trans (h.1 b hb), fun b hb => ⟨(hk _ _ (by omega)).trans (h.2 b hb).1, (hk _ _ (by omega)).trans (h.2 b hb).2⟩⟩
/-- an out array written: the rest of the world is as it was -/
theorem YC.out {Z : yL} {al : yAl} {sh : ySh} {nm ns k : Nat} {mu : Nat → Nat} {x : yShp} (h : YC Z al sh nm ns mu) (hk : 70 ≤ k) : YC Z al (shp sh k 0 x) nm ns mu := h.to (fun a b ha => shp_ne _ _ (by omega))
theorem YM.out {Z : yL} {sh : ySh} {k : Nat} {x : yShp} (h : YM Z sh) (hk : 70 ≤ k) : YM Z (shp sh k 0 x) := h.to (fun a h1 h2 => shp_ne _ _ (by omega))
theorem yFree.out {sh : ySh} {nm ns k : Nat} {x : yShp} (h : yFree sh nm ns) (hk : 70 ≤ k) : yFree (shp sh k 0 x) nm ns := h.to (fun a b ha => shp_ne _ _ (by omega))
theorem lcmp_self (x : Int64) : lg_cmp x x = 0 := by
  unfold lg_cmp
  simp
section JLAW
variable {p : Program} {l : Launch} {e : Env} {R : Room} {s : State} {m : MethodId} {args : Array Value} {below : List Frame} {meth : Method} {c : Code} {cells slots : Nat} {Q : State → Prop} {cc : ByteArray} {nL pc pc' : Nat} {own : String} {Ts : List Cond} {Z : yL} {al : yAl} {sh : ySh} {S : yS} {lv : List (Nat × Value)} {st : List Value}
/-- the script's i-th int -/
theorem j_sld (cx : Cx p s m args c cc nL own Ts Z) {b L : Nat} {xs : Nat → Int32} (hX : va_X b L xs s s.heap) (hb0 : b < s.heap.size ∧ ¬ Z.2.2.1 ≤ b) {i : Int32} {n : Nat} (hi : i = nI n) (hn : n < L ∧ L ≤ 2048) (d : decode cc pc = .ok (.iaload, 1)) (hp : pc + 1 = pc') (k : J p l e R s m args below meth c nL Z cells slots Q al sh S pc' lv (.int (xs n) :: st)) : J p l e R s m args below meth c nL Z cells slots Q al sh S pc lv (.int i :: .ref b :: st) := by
  subst hp hi
  intro H locs ls hW hS hl
  have h1 := k H locs ls hW hS hl
  have e1 : (nI n).toNatClampNeg = n := nI_clamp (by omega)
  rw [← e1] at h1
  exact va_sld cx.1.1 cx.1.2.1 hX hb0.1 hb0.2 hS (vp_in_nI (by omega) (by omega)) d h1
theorem j_slen (cx : Cx p s m args c cc nL own Ts Z) {b L : Nat} {xs : Nat → Int32} (hX : va_X b L xs s s.heap) (hb0 : b < s.heap.size ∧ ¬ Z.2.2.1 ≤ b) (d : decode cc pc = .ok (.arraylength, 1)) (hp : pc + 1 = pc') (k : J p l e R s m args below meth c nL Z cells slots Q al sh S pc' lv (.int (nI L) :: st)) : J p l e R s m args below meth c nL Z cells slots Q al sh S pc lv (.ref b :: st) := by
  subst hp
  exact fun H locs ls hW hS hl => va_slen cx.1.1 cx.1.2.1 hX hb0.1 hb0.2 hS d (k H locs ls hW hS hl)
theorem j_tabIn (cx : Cx p s m args c cc nL own Ts Z) {dflt lo hi : Int} {offs : Array Int} {len : Nat} {x : Int32} {off : Int} {tgt : Nat} (d : decode cc pc = .ok (.tableswitch dflt lo hi offs, len)) (h1 : ¬ x.toInt < lo) (h2 : ¬ hi < x.toInt) (ho : offs[(x.toInt - lo).toNat]? = some off) (ht : (pc : Int) + off = (tgt : Int)) (k : J p l e R s m args below meth c nL Z cells slots Q al sh S tgt lv st) : J p l e R s m args below meth c nL Z cells slots Q al sh S pc lv (.int x :: st) :=
  fun H locs ls hW hS hl => lv_tableIn cx.1.1 cx.1.2.1 d h1 h2 ho ht (k H locs ls hW hS hl)
theorem j_tabOut (cx : Cx p s m args c cc nL own Ts Z) {dflt lo hi : Int} {offs : Array Int} {len : Nat} {x : Int32} {tgt : Nat} (d : decode cc pc = .ok (.tableswitch dflt lo hi offs, len)) (h : x.toInt < lo ∨ hi < x.toInt) (ht : (pc : Int) + dflt = (tgt : Int)) (k : J p l e R s m args below meth c nL Z cells slots Q al sh S tgt lv st) : J p l e R s m args below meth c nL Z cells slots Q al sh S pc lv (.int x :: st) :=
  fun H locs ls hW hS hl => lv_tableOut cx.1.1 cx.1.2.1 d h ht (k H locs ls hW hS hl)
theorem j_laldX (cx : Cx p s m args c cc nL own Ts Z) {a b : Nat} {f : Nat → Int64} {x v : Int64} (hs : sh a b = some (yLo Z (vp_updL f 0 x))) (hv : x = v) {q : Nat} (hq : q = al a b) (d : decode cc pc = .ok (.laload, 1)) (hp : pc + 1 = pc') (k : J p l e R s m args below meth c nL Z cells slots Q al sh S pc' lv (.long v :: st)) : J p l e R s m args below meth c nL Z cells slots Q al sh S pc lv (.int 0 :: .ref q :: st) := by
  subst hv
  refine j_lald cx hs rfl (by unfold vp_in; decide) hq d hp ?_
  rw [show vp_updL f 0 x (0 : Int32).toNatClampNeg = x from by simp [vp_updL, vf_upd]]
  exact k
theorem j_daldX (cx : Cx p s m args c cc nL own Ts Z) {a b : Nat} {f : Nat → UInt64} {x v : UInt64} (hs : sh a b = some (yDo Z (vf_upd f 0 x))) (hv : x = v) {q : Nat} (hq : q = al a b) (d : decode cc pc = .ok (.daload, 1)) (hp : pc + 1 = pc') (k : J p l e R s m args below meth c nL Z cells slots Q al sh S pc' lv (.double v :: st)) : J p l e R s m args below meth c nL Z cells slots Q al sh S pc lv (.int 0 :: .ref q :: st) := by
  subst hv
  refine j_dald cx hs rfl (by unfold vp_in; decide) hq d hp ?_
  rw [show vf_upd f 0 x (0 : Int32).toNatClampNeg = x from by simp [vf_upd]]
  exact k
end JLAW
