/-! calls whose answer and numbers are told outright -/
def bI (P : Prop) [Decidable P] : Int32 := if P then 1 else 0
theorem bI_t {P : Prop} [Decidable P] (h : P) : bI P = 1 := if_pos h
theorem bI_f {P : Prop} [Decidable P] (h : ¬ P) : bI P = 0 := if_neg h
theorem bI_0 {P : Prop} [Decidable P] : bI P = 0 ↔ ¬ P := by
  by_cases h : P
  · rw [bI_t h]; exact ⟨fun q => absurd q (by decide), fun q => absurd h q⟩
  · rw [bI_f h]; exact ⟨fun _ => h, fun _ => rfl⟩
theorem bI_c {P P' : Prop} [Decidable P] [Decidable P'] (h : P ↔ P') : bI P = bI P' := by
  by_cases q : P
  · rw [bI_t q, bI_t (h.mp q)]
  · rw [bI_f q, bI_f (fun z => q (h.mpr z))]
theorem bI_z {P : Prop} [Decidable P] : narrow .boolean (.int (bI P)) = .int (bI P) := by
  by_cases q : P
  · rw [bI_t q]; rfl
  · rw [bI_f q]; rfl
/-- .. where P holds -/
def yRp (P : Prop) (al : yAl) (sh : ySh) (v : Option Value) (S : yS) : yPost := fun v' al' sh' S' => P ∧ v' = v ∧ al' = al ∧ sh' = sh ∧ S' = S
section CALLR
variable {p : Program} {l : Launch} {e : Env} {R : Room} {s : State} {m : MethodId} {args : Array Value} {below : List Frame} {meth : Method} {c : Code} {cells slots cells1 slots1 : Nat} {Q : State → Prop} {cc : ByteArray} {nL pc pc' : Nat} {own : String} {Ts : List Cond} {Z : yL} {al : yAl} {sh : ySh} {S S0 : yS} {lv lv' : List (Nat × Value)} {st st1 rest : List Value}
variable {y : MethodName} {ws ws' : List Cond} {rm : Room} {mc ms idx n maxL : Nat} {bytes : ByteArray} {ret : Option FieldType} {C : String} {b : Addr} {As : List Value} {post : yPost} {px : String → Prop} {hh : List (Nat × Nat × Nat × Nat)} {P : Prop} {v0 : Option Value}
theorem j_ifb_eq (cx : Cx p s m args c cc nL own Ts Z) {P : Prop} [Decidable P] {off : Int} {tgt : Nat} (d : decode cc pc = .ok (.ifCond .eq off, 3)) (ht : (pc : Int) + off = (tgt : Int)) (hp : pc + 3 = pc') (kt : ¬ P → J p l e R s m args below meth c nL Z cells slots Q al sh S tgt lv st) (kf : P → J p l e R s m args below meth c nL Z cells slots Q al sh S pc' lv st) : J p l e R s m args below meth c nL Z cells slots Q al sh S pc lv (.int (bI P) :: st) :=
  j_if_eq cx d ht hp (fun h => kt (bI_0.mp h)) (fun h => kf (Decidable.of_not_not (fun q => h (bI_0.mpr q))))
theorem j_ifb_ne (cx : Cx p s m args c cc nL own Ts Z) {P : Prop} [Decidable P] {off : Int} {tgt : Nat} (d : decode cc pc = .ok (.ifCond .ne off, 3)) (ht : (pc : Int) + off = (tgt : Int)) (hp : pc + 3 = pc') (kt : P → J p l e R s m args below meth c nL Z cells slots Q al sh S tgt lv st) (kf : ¬ P → J p l e R s m args below meth c nL Z cells slots Q al sh S pc' lv st) : J p l e R s m args below meth c nL Z cells slots Q al sh S pc lv (.int (bI P) :: st) :=
  j_if_ne cx d ht hp (fun h => kt (Decidable.of_not_not (fun q => h (bI_0.mpr q)))) (fun h => kf (bI_0.mp h))
theorem j_cVR (cx : Cx p s m args c cc nL own Ts Z) (hM : Ct l y ws rm mc ms Z (.ref b :: As) al sh S (yR al sh v0 S0)) (hT : GoodIn Ts (wsV own idx C y ws)) (hw : ws = Cond.code y bytes maxL ret :: ws') (hrc : rm.cells = mc) (hrs : rm.slots = ms) (n : Nat) (hn : As.length = n)
    (hd : y.cls = C ∧ y.cls ≠ "java/lang/invoke/MethodHandle" ∧ y.cls ≠ "java/lang/invoke/VarHandle" ∧ (parseMethodDescriptor y.desc).map (fun d => d.parameters.length) = some n) (hR : rm.frames + 1 ≤ R.frames ∧ 8 + (maxL + 11) + rm.locals ≤ R.locals)
    {k1 k2 ci : Nat} {tg : yTg} {r : vw_C} (hs : sh k1 k2 = some (.inl (ci, tg))) (hc : vwCl[ci]? = some r) (hrC : r.1 = C) (hb : b = al k1 k2) {st0 : List Value} (hst : st0 = As.reverse ++ .ref b :: rest) (hsum : (rest.map fun v => v.category).sum ≤ 8) (d : decode cc pc = .ok (.invokevirtual idx, 3)) (hf : cells + mc ≤ R.cells ∧ slots + ms ≤ R.slots) (hp : pc + 3 = pc') (hst1 : v0.toList ++ rest = st1) (hc1 : cells + mc = cells1) (hs1 : slots + ms = slots1)
    (k : J p l e R s m args below meth c nL Z cells1 slots1 Q al sh S0 pc' lv st1) : J p l e R s m args below meth c nL Z cells slots Q al sh S pc lv st0 := by
  subst hn hst1 hc1 hs1
  exact j_callV cx hM hT hw hrc hrs hd hR hs hc hrC hb hst hsum d hf hp (fun v al' sh' S' h => by obtain ⟨rfl, rfl, rfl, rfl⟩ := h; exact k)
theorem j_cVX (cx : Cx p s m args c cc nL own Ts Z) (hM : Cq l y ws rm mc ms Z (.ref b :: As) al sh S (yRp P al sh v0 S0) px) (hT : GoodIn Ts (wsV own idx C y ws)) (hw : ws = Cond.code y bytes maxL ret :: ws') (hrc : rm.cells = mc) (hrs : rm.slots = ms) (n : Nat) (hn : As.length = n)
    (hd : y.cls = C ∧ y.cls ≠ "java/lang/invoke/MethodHandle" ∧ y.cls ≠ "java/lang/invoke/VarHandle" ∧ (parseMethodDescriptor y.desc).map (fun d => d.parameters.length) = some n) (hR : rm.frames + 1 ≤ R.frames ∧ 8 + (maxL + 11) + rm.locals ≤ R.locals)
    {k1 k2 ci : Nat} {tg : yTg} {r : vw_C} (hs : sh k1 k2 = some (.inl (ci, tg))) (hc : vwCl[ci]? = some r) (hrC : r.1 = C) (hb : b = al k1 k2) {st0 : List Value} (hst : st0 = As.reverse ++ .ref b :: rest) (hsum : (rest.map fun v => v.category).sum ≤ 8) (d : decode cc pc = .ok (.invokevirtual idx, 3)) (hf : cells + mc ≤ R.cells ∧ slots + ms ≤ R.slots) (hp : pc + 3 = pc') (hst1 : v0.toList ++ rest = st1) (hc1 : cells + mc = cells1) (hs1 : slots + ms = slots1)
    (kx : ∀ E, px E → JX p l e R s m args below meth c nL Z cells1 slots1 Q al sh S pc lv E)
    (k : P → J p l e R s m args below meth c nL Z cells1 slots1 Q al sh S0 pc' lv st1) : J p l e R s m args below meth c nL Z cells slots Q al sh S pc lv st0 := by
  subst hn hst1 hc1 hs1
  exact j_callVx cx hM hT hw hrc hrs hd hR hs hc hrC hb hst hsum d hf hp kx (fun v al' sh' S' h => by obtain ⟨hP, rfl, rfl, rfl, rfl⟩ := h; exact k hP)
theorem j_cSR (cx : Cx p s m args c cc nL own Ts Z) (hM : Ct l y ws rm mc ms Z As al sh S (yR al sh v0 S0)) (hT : GoodIn Ts (va_wsS own idx y ws)) (hw : ws = Cond.code y bytes maxL ret :: ws') (hrc : rm.cells = mc) (hrs : rm.slots = ms) (n : Nat) (hn : As.length = n)
    (hd : y.cls ≠ "java/lang/invoke/MethodHandle" ∧ y.cls ≠ "java/lang/invoke/VarHandle" ∧ (parseMethodDescriptor y.desc).map (fun d => d.parameters.length) = some n) (hR : rm.frames + 1 ≤ R.frames ∧ 8 + (maxL + 11) + rm.locals ≤ R.locals)
    {st0 : List Value} (hst : st0 = As.reverse ++ rest) (hsum : (rest.map fun v => v.category).sum ≤ 8) (d : decode cc pc = .ok (.invokestatic idx, 3)) (hf : cells + mc ≤ R.cells ∧ slots + ms ≤ R.slots) (hp : pc + 3 = pc') (hst1 : v0.toList ++ rest = st1) (hc1 : cells + mc = cells1) (hs1 : slots + ms = slots1)
    (k : J p l e R s m args below meth c nL Z cells1 slots1 Q al sh S0 pc' lv st1) : J p l e R s m args below meth c nL Z cells slots Q al sh S pc lv st0 := by
  subst hn hst1 hc1 hs1
  exact j_callS cx hM hT hw hrc hrs hd hR hst hsum d hf hp (fun v al' sh' S' h => by obtain ⟨rfl, rfl, rfl, rfl⟩ := h; exact k)
theorem j_cSX (cx : Cx p s m args c cc nL own Ts Z) (hM : Cq l y ws rm mc ms Z As al sh S (yRp P al sh v0 S0) px) (hT : GoodIn Ts (va_wsS own idx y ws)) (hw : ws = Cond.code y bytes maxL ret :: ws') (hrc : rm.cells = mc) (hrs : rm.slots = ms) (n : Nat) (hn : As.length = n)
    (hd : y.cls ≠ "java/lang/invoke/MethodHandle" ∧ y.cls ≠ "java/lang/invoke/VarHandle" ∧ (parseMethodDescriptor y.desc).map (fun d => d.parameters.length) = some n) (hR : rm.frames + 1 ≤ R.frames ∧ 8 + (maxL + 11) + rm.locals ≤ R.locals)
    {st0 : List Value} (hst : st0 = As.reverse ++ rest) (hsum : (rest.map fun v => v.category).sum ≤ 8) (d : decode cc pc = .ok (.invokestatic idx, 3)) (hf : cells + mc ≤ R.cells ∧ slots + ms ≤ R.slots) (hp : pc + 3 = pc') (hst1 : v0.toList ++ rest = st1) (hc1 : cells + mc = cells1) (hs1 : slots + ms = slots1)
    (kx : ∀ E, px E → JX p l e R s m args below meth c nL Z cells1 slots1 Q al sh S pc lv E)
    (k : P → J p l e R s m args below meth c nL Z cells1 slots1 Q al sh S0 pc' lv st1) : J p l e R s m args below meth c nL Z cells slots Q al sh S pc lv st0 := by
  subst hn hst1 hc1 hs1
  exact j_callSx cx hM hT hw hrc hrs hd hR hst hsum d hf hp kx (fun v al' sh' S' h => by obtain ⟨hP, rfl, rfl, rfl, rfl⟩ := h; exact k hP)
theorem j_cSW (cx : Cx p s m args c cc nL own Ts Z) (hM : Ct l y ws rm mc ms Z As al sh S post) (hT : GoodIn Ts (va_wsS own idx y ws)) (hw : ws = Cond.codeWith y bytes maxL ret hh :: ws') (hrc : rm.cells = mc) (hrs : rm.slots = ms) (n : Nat) (hn : As.length = n)
    (hd : y.cls ≠ "java/lang/invoke/MethodHandle" ∧ y.cls ≠ "java/lang/invoke/VarHandle" ∧ (parseMethodDescriptor y.desc).map (fun d => d.parameters.length) = some n) (hR : rm.frames + 1 ≤ R.frames ∧ 8 + (maxL + 11) + rm.locals ≤ R.locals)
    {st0 : List Value} (hst : st0 = As.reverse ++ rest) (hsum : (rest.map fun v => v.category).sum ≤ 8) (d : decode cc pc = .ok (.invokestatic idx, 3)) (hf : cells + mc ≤ R.cells ∧ slots + ms ≤ R.slots) (hp : pc + 3 = pc') (hc1 : cells + mc = cells1) (hs1 : slots + ms = slots1)
    (k : ∀ v al' sh' S', post v al' sh' S' → J p l e R s m args below meth c nL Z cells1 slots1 Q al' sh' S' pc' lv (v.toList ++ rest)) : J p l e R s m args below meth c nL Z cells slots Q al sh S pc lv st0 := by
  subst hn hc1 hs1
  exact j_callSW cx hM hT hw hrc hrs hd hR hst hsum d hf hp k
theorem j_cVP (cx : Cx p s m args c cc nL own Ts Z) (hM : Ct l y ws rm mc ms Z (.ref b :: As) al sh S post) (hT : GoodIn Ts (wsV own idx C y ws)) (hw : ws = Cond.code y bytes maxL ret :: ws') (hrc : rm.cells = mc) (hrs : rm.slots = ms) (n : Nat) (hn : As.length = n)
    (hd : y.cls = C ∧ y.cls ≠ "java/lang/invoke/MethodHandle" ∧ y.cls ≠ "java/lang/invoke/VarHandle" ∧ (parseMethodDescriptor y.desc).map (fun d => d.parameters.length) = some n) (hR : rm.frames + 1 ≤ R.frames ∧ 8 + (maxL + 11) + rm.locals ≤ R.locals)
    {k1 k2 ci : Nat} {tg : yTg} {r : vw_C} (hs : sh k1 k2 = some (.inl (ci, tg))) (hc : vwCl[ci]? = some r) (hrC : r.1 = C) (hb : b = al k1 k2) {st0 : List Value} (hst : st0 = As.reverse ++ .ref b :: rest) (hsum : (rest.map fun v => v.category).sum ≤ 8) (d : decode cc pc = .ok (.invokevirtual idx, 3)) (hf : cells + mc ≤ R.cells ∧ slots + ms ≤ R.slots) (hp : pc + 3 = pc') (hc1 : cells + mc = cells1) (hs1 : slots + ms = slots1)
    (k : ∀ v al' sh' S', post v al' sh' S' → J p l e R s m args below meth c nL Z cells1 slots1 Q al' sh' S' pc' lv (v.toList ++ rest)) : J p l e R s m args below meth c nL Z cells slots Q al sh S pc lv st0 := by
  subst hn hc1 hs1
  exact j_callV cx hM hT hw hrc hrs hd hR hs hc hrC hb hst hsum d hf hp k
theorem j_cVXP (cx : Cx p s m args c cc nL own Ts Z) (hM : Cq l y ws rm mc ms Z (.ref b :: As) al sh S post px) (hT : GoodIn Ts (wsV own idx C y ws)) (hw : ws = Cond.code y bytes maxL ret :: ws') (hrc : rm.cells = mc) (hrs : rm.slots = ms) (n : Nat) (hn : As.length = n)
    (hd : y.cls = C ∧ y.cls ≠ "java/lang/invoke/MethodHandle" ∧ y.cls ≠ "java/lang/invoke/VarHandle" ∧ (parseMethodDescriptor y.desc).map (fun d => d.parameters.length) = some n) (hR : rm.frames + 1 ≤ R.frames ∧ 8 + (maxL + 11) + rm.locals ≤ R.locals)
    {k1 k2 ci : Nat} {tg : yTg} {r : vw_C} (hs : sh k1 k2 = some (.inl (ci, tg))) (hc : vwCl[ci]? = some r) (hrC : r.1 = C) (hb : b = al k1 k2) {st0 : List Value} (hst : st0 = As.reverse ++ .ref b :: rest) (hsum : (rest.map fun v => v.category).sum ≤ 8) (d : decode cc pc = .ok (.invokevirtual idx, 3)) (hf : cells + mc ≤ R.cells ∧ slots + ms ≤ R.slots) (hp : pc + 3 = pc') (hc1 : cells + mc = cells1) (hs1 : slots + ms = slots1)
    (kx : ∀ E, px E → JX p l e R s m args below meth c nL Z cells1 slots1 Q al sh S pc lv E)
    (k : ∀ v al' sh' S', post v al' sh' S' → J p l e R s m args below meth c nL Z cells1 slots1 Q al' sh' S' pc' lv (v.toList ++ rest)) : J p l e R s m args below meth c nL Z cells slots Q al sh S pc lv st0 := by
  subst hn hc1 hs1
  exact j_callVx cx hM hT hw hrc hrs hd hR hs hc hrC hb hst hsum d hf hp kx k
theorem j_cIP (cx : Cx p s m args c cc nL own Ts Z) (hM : Ct l y ws rm mc ms Z (.ref b :: As) al sh S post) (hT : GoodIn Ts ws) (hw : ws = Cond.code y bytes maxL none :: ws') (hrc : rm.cells = mc) (hrs : rm.slots = ms) (n : Nat) (hn : As.length = n)
    (hini : Cond.initialized y.cls ∈ Ts) (hlk : Cond.methodLink own idx y ∈ Ts) (hin : Cond.instanceMethod y ∈ Ts) (hy1 : y.name = "<init>")
    (hd : y.cls ≠ "java/lang/invoke/MethodHandle" ∧ y.cls ≠ "java/lang/invoke/VarHandle" ∧ (parseMethodDescriptor y.desc).map (fun d => d.parameters.length) = some n) (hR : rm.frames + 1 ≤ R.frames ∧ 8 + (maxL + 11) + rm.locals ≤ R.locals)
    {st0 : List Value} (hst : st0 = As.reverse ++ .ref b :: rest) (hsum : (rest.map fun v => v.category).sum ≤ 8) (d : decode cc pc = .ok (.invokespecial idx, 3)) (hf : cells + mc ≤ R.cells ∧ slots + ms ≤ R.slots) (hp : pc + 3 = pc') (hc1 : cells + mc = cells1) (hs1 : slots + ms = slots1)
    (k : ∀ v al' sh' S', post v al' sh' S' → J p l e R s m args below meth c nL Z cells1 slots1 Q al' sh' S' pc' lv (v.toList ++ rest)) : J p l e R s m args below meth c nL Z cells slots Q al sh S pc lv st0 := by
  subst hn hc1 hs1
  exact j_callI cx hM hT hw hrc hrs hini hlk hin hy1 hd hR hst hsum d hf hp k
end CALLR
