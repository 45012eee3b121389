section JROWS3
variable {p : Program} {l : Launch} {e : Env} {R : Room} {s : State} {m : MethodId} {args : Array Value} {below : List Frame} {meth : Method} {c : Code} {cells slots : Nat} {Q : State → Prop} {cc : ByteArray} {nL pc pc' : Nat} {own : String} {Ts : List Cond} {Z : yL} {al : yAl} {sh : ySh} {S : yS} {lv : List (Nat × Value)} {st : List Value}
theorem j_anew (cx : Cx p s m args c cc nL own Ts Z) (a b : Nat) (hs : sh a b = none) (ha : a ≠ 99) {idx : Nat} (hcl : Cond.classLink own idx "java/lang/Object" ∈ Ts) {n : Int32} {N : Nat} (hn : ¬ n < 0) (hN : n.toNatClampNeg = N) (hb : N ≤ 10000) (hcells : cells + 1 ≤ R.cells) (hslots : slots + N ≤ R.slots) (d : decode cc pc = .ok (.anewarray idx, 3)) (hp : pc + 3 = pc')
    (k : ∀ q : Nat, J p l e R s m args below meth c nL Z (cells + 1) (slots + N) Q (alp al a b q) (shp sh a b (.inr (.inr (Z.2.1 4, (N, .inr (.inr (.inr (.inr (fun _ => none))))))))) (szero S a b) pc' lv (.ref q :: st)) : J p l e R s m args below meth c nL Z cells slots Q al sh S pc lv (.int n :: st) := by
  subst hp hN
  intro H locs ls hW hS hl
  refine W.anew cx.1.1 cx.1.2.1 cx.1.2.2.2.1 (cx.1.2.2.2.2 _ hcl) (va_AO.use cx.2.2.2.2.2.2.2.2.2.2.1) rfl d rfl hn (by omega) hcells hslots fun cA kA comp f1 f2 f3 f4 => ?_
  generalize hH1 : H.push ({ cls := cA, slots := Array.replicate n.toNatClampNeg .null, vm := .none } : Cell) = H1
  have z1 : H1.size = H.size + 1 := by rw [← hH1, Array.size_push]
  have e1 : H1[H.size]? = some (arrV cA n.toNatClampNeg (fun _ => .null)) := by rw [← hH1, Array.getElem?_push_size, ← arrV_new]
  have o1 : ∀ q : Nat, q < H.size → H1[q]? = H[q]? := fun q hq => by rw [← hH1, Array.getElem?_push, if_neg (Nat.ne_of_lt hq)]
  have hcA : cA = Z.2.1 4 := by
    obtain ⟨kA9, comp9, g1, g2, g3, g4⟩ := (cx.2.1.2 4 (Z.2.1 4, .object "java/lang/Object") rfl).2
    exact Option.some.inj (f1.symm.trans g4)
  subst hcA
  have hat : yAt Z.1 (alp al a b H.size) (szero S a b) a b (.inr (.inr (Z.2.1 4, (n.toNatClampNeg, .inr (.inr (.inr (.inr (fun _ => none)))))))) H1 := by
    show H1[alp al a b H.size a b]? = some (vp_cell _ _)
    rw [alp_self, vp_cell_q, e1]
    rfl
  exact k H.size H1 locs ls (hW.new hs ha z1 o1 (fun c d j h => by simp only [szero, if_neg h]) hat (fun _ _ _ _ e => by cases e)) ⟨Nat.le_trans hS.1 (by omega), fun x h1 h2 => (o1 x (Nat.lt_of_lt_of_le h1 hS.1)).trans (hS.2.1 x h1 h2), hS.2.2⟩ hl
theorem j_aast (cx : Cx p s m args c cc nL own Ts Z) {a b n : Nat} {cA : ClassId} {f : Nat → Option Nat} (hs : sh a b = some (.inr (.inr (cA, (n, .inr (.inr (.inr (.inr f)))))))) (hcA : cA = Z.2.1 4) {kd i ci : Nat} {tg : yTg} {r : vw_C} (hv : sh kd i = some (.inl (ci, tg))) (hc : vwCl[ci]? = some r) (hca : (r.1, "java/lang/Object") ∈ yCast) {x : Int32} (hi : vp_in x n) {q v : Nat} (hq : q = al a b) (hqv : v = al kd i) (d : decode cc pc = .ok (.aastore, 1)) (hp : pc + 1 = pc')
    (k : J p l e R s m args below meth c nL Z cells slots Q al (shp sh a b (.inr (.inr (cA, (n, .inr (.inr (.inr (.inr (va_up f x.toNatClampNeg (some v)))))))))) S pc' lv st) : J p l e R s m args below meth c nL Z cells slots Q al sh S pc lv (.ref v :: .int x :: .ref q :: st) := by
  subst hp hq hqv
  intro H locs ls hW hS hl
  have hlt : x.toNatClampNeg < n := Nat.not_le.mp fun q => hi (Or.inr q)
  have h0 : ¬ x < 0 := fun q => hi (Or.inl q)
  have hcell : H[al a b]? = some (vp_cell cA (n, .inr (.inr (.inr (.inr f))))) := (hW.2.1 a b _ hs).2
  obtain ⟨cellV, g1, g3, g2⟩ := hW.recv cx hv hc
  have hK := (cx.2.1.2 4 (Z.2.1 4, .object "java/lang/Object") rfl).2
  rw [← hcA] at hK
  obtain ⟨kA, comp, k1, k2, k3, -⟩ := hK
  obtain ⟨kE, hkE, -⟩ := Vm.findClass_spec k3
  obtain ⟨kC, hkC, -⟩ := Vm.findClass_spec g2
  obtain ⟨c0, t1, f1, f2, f3⟩ := Cond.castable_spec (va_Nw.use (A := args) rfl (cx.2.2.2.2.2.2.2.2.2.1.1 _ hca))
  cases g2.symm.trans f1
  cases k3.symm.trans f2
  refine W.aast cx.1.1 cx.1.2.1 hcell (fun q h => by cases h) (fun h => by cases h) k1 k2 rfl hkE ⟨h0, by show _ < (arrV _ _ _).slots.size; rw [arrV_size]; exact hlt⟩ g1 (fun q h => by rw [h] at g3; cases g3) hkC f3 rfl rfl d fun H1 e z oq => ?_
  have hat : yAt Z.1 al S a b (.inr (.inr (cA, (n, .inr (.inr (.inr (.inr (va_up f x.toNatClampNeg (some (al kd i)))))))))) H1 := by
    show H1[al a b]? = some (vp_cell _ _)
    rw [e]
    rw [vp_cell_q, vp_cell_q, arrV_store]
    congr 2
    funext q
    by_cases hq : q = x.toNatClampNeg
    · subst hq
      simp [updV, va_up, va_rf]
    · simp [updV, va_up, hq]
  exact k H1 _ ls (hW.put hs z oq (fun c d j h => rfl) hat (fun _ _ _ _ e => by cases e)) (hS.put z oq (hW.2.1 a b _ hs).1) hl
theorem j_getE (cx : Cx p s m args c cc nL own Ts Z) {idx : Nat} (hlink : Cond.fieldLink own idx RJx4a65c "DEFAULTCAPACITY_EMPTY_ELEMENTDATA" "[Ljava/lang/Object;" ∈ Ts) (d : decode cc pc = .ok (.getstatic idx, 3)) (hp : pc + 3 = pc') (k : J p l e R s m args below meth c nL Z cells slots Q al sh S pc' lv (.ref Z.2.2.2.1 :: st)) : J p l e R s m args below meth c nL Z cells slots Q al sh S pc lv st := by
  subst hp
  exact fun H locs ls hW hS hl => va_gets cx.1.1 cx.1.2.1 cx.2.2.2.2.2.2.1 hS cx.1.2.2.2.1 (cx.1.2.2.2.2 _ hlink) (fun _ h => h) d (k H locs ls hW hS hl)
theorem j_alenE (cx : Cx p s m args c cc nL own Ts Z) {q : Nat} (hq : q = Z.2.2.2.1) (d : decode cc pc = .ok (.arraylength, 1)) (hp : pc + 1 = pc') (k : J p l e R s m args below meth c nL Z cells slots Q al sh S pc' lv (.int 0 :: st)) : J p l e R s m args below meth c nL Z cells slots Q al sh S pc lv (.ref q :: st) := by
  subst hp hq
  intro H locs ls hW hS hl
  obtain ⟨cell, h1, h2, h3, h4, h5, h6, h7⟩ := cx.2.2.2.2.2.2.2.1
  have hc : H[Z.2.2.2.1]? = some cell := by rw [hS.2.1 _ (Array.getElem?_eq_some_iff.mp h1).1 h7]; exact h1
  exact W.alen (n := 0) cx.1.1 cx.1.2.1 hc h2 h5 rfl rfl d (k H locs ls hW hS hl)
theorem j_acmp_eq (cx : Cx p s m args c cc nL own Ts Z) {x y : Nat} {off : Int} {tgt : Nat} (d : decode cc pc = .ok (.if_acmp .eq off, 3)) (ht : (pc : Int) + off = (tgt : Int)) (hp : pc + 3 = pc') (kt : x = y → J p l e R s m args below meth c nL Z cells slots Q al sh S tgt lv st) (kf : ¬ x = y → J p l e R s m args below meth c nL Z cells slots Q al sh S pc' lv st) : J p l e R s m args below meth c nL Z cells slots Q al sh S pc lv (.ref y :: .ref x :: st) := by
  subst hp
  exact fun H locs ls hW hS hl => lv_acmp_eq (rx := some x) (ry := some y) cx.1.1 cx.1.2.1 d ht (fun h => kt (Option.some.inj h) H locs ls hW hS hl) (fun h => kf (fun q => h (congrArg some q)) H locs ls hW hS hl)
theorem j_acmp_ne (cx : Cx p s m args c cc nL own Ts Z) {x y : Nat} {off : Int} {tgt : Nat} (d : decode cc pc = .ok (.if_acmp .ne off, 3)) (ht : (pc : Int) + off = (tgt : Int)) (hp : pc + 3 = pc') (kt : ¬ x = y → J p l e R s m args below meth c nL Z cells slots Q al sh S tgt lv st) (kf : x = y → J p l e R s m args below meth c nL Z cells slots Q al sh S pc' lv st) : J p l e R s m args below meth c nL Z cells slots Q al sh S pc lv (.ref y :: .ref x :: st) := by
  subst hp
  exact fun H locs ls hW hS hl => lv_acmp_ne (rx := some x) (ry := some y) cx.1.1 cx.1.2.1 d ht (fun h => kt (fun q => h (congrArg some q)) H locs ls hW hS hl) (fun h => kf (Option.some.inj h) H locs ls hW hS hl)
theorem j_ldcM (cx : Cx p s m args c cc nL own Ts Z) {idx : Nat} (hlink : Cond.classLink own idx "[Ljava/lang/Object;" ∈ Ts) (d : decode cc pc = .ok (.ldc idx, 2)) (hp : pc + 2 = pc') (k : J p l e R s m args below meth c nL Z cells slots Q al sh S pc' lv (.ref Z.2.2.2.2 :: st)) : J p l e R s m args below meth c nL Z cells slots Q al sh S pc lv st := by
  subst hp
  exact fun H locs ls hW hS hl => va_ldcM cx.1.1 cx.1.2.1 cx.1.2.2.2.1 (cx.1.2.2.2.2 _ hlink) cx.2.2.2.2.2.2.2.2.1 d (k H locs ls hW hS hl)
theorem j_getC (cx : Cx p s m args c cc nL own Ts Z) {idx a b n : Nat} {f : Nat → Option Nat} (hlink : Cond.methodLink own idx ⟨"java/lang/Object", "getClass", "()Ljava/lang/Class;"⟩ ∈ Ts) (hsel : Cond.selects "[Ljava/lang/Object;" ⟨"java/lang/Object", "getClass", "()Ljava/lang/Class;"⟩ ⟨"java/lang/Object", "getClass", "()Ljava/lang/Class;"⟩ ∈ Ts) (hinst : Cond.instanceMethod ⟨"java/lang/Object", "getClass", "()Ljava/lang/Class;"⟩ ∈ Ts) (hnat : Cond.native ⟨"java/lang/Object", "getClass", "()Ljava/lang/Class;"⟩ ∈ Ts)
    (hs : sh a b = some (.inr (.inr (Z.2.1 4, (n, .inr (.inr (.inr (.inr f)))))))) {q : Nat} (hq : q = al a b) (hframes : 1 ≤ R.frames) (hlocals : (st.map fun v => v.category).sum + 14 ≤ R.locals) (d : decode cc pc = .ok (.invokevirtual idx, 3)) (hp : pc + 3 = pc') (k : J p l e R s m args below meth c nL Z cells slots Q al sh S pc' lv (.ref Z.2.2.2.2 :: st)) : J p l e R s m args below meth c nL Z cells slots Q al sh S pc lv (.ref q :: st) := by
  subst hp hq
  intro H locs ls hW hS hl
  have hcell : H[al a b]? = some (vp_cell (Z.2.1 4) (n, .inr (.inr (.inr (.inr f))))) := (hW.2.1 a b _ hs).2
  obtain ⟨kA, comp, g1, g2, g3, g4⟩ := (cx.2.1.2 4 (Z.2.1 4, .object "java/lang/Object") rfl).2
  have hdecl : (Cond.declares ⟨"java/lang/Object", "getClass", "()Ljava/lang/Class;"⟩).before args s = true := va_any rfl (cx.2.2.2.2.2.2.2.2.2.1.2.1 _ (List.Mem.head _))
  exact va_getC cx.1.1 cx.1.2.1 (cx.1.2.2.1.trans hl.1.symm) cx.1.2.2.2.1 (cx.1.2.2.2.2 _ hlink) hdecl (cx.1.2.2.2.2 _ hsel) (cx.1.2.2.2.2 _ hinst) (cx.1.2.2.2.2 _ hnat) cx.2.2.2.2.2.2.2.2.1 ⟨_, hcell, rfl, g4⟩ hframes hlocals d (k H locs ls hW hS hl)
theorem j_copy (cx : Cx p s m args c cc nL own Ts Z) {idx a b a' b' n0 n1 : Nat} {f g : Nat → Option Nat} (hlink : Cond.methodLink own idx arraycopyName ∈ Ts) (hnat : Cond.native arraycopyName ∈ Ts) (hstat : Cond.static arraycopyName ∈ Ts) (hini : Cond.initialized "java/lang/System" ∈ Ts) {C : String} (hC : (C, "java/lang/Object") ∈ yCast)
    (hs0 : sh a b = some (.inr (.inr (Z.2.1 4, (n0, .inr (.inr (.inr (.inr f)))))))) (hs1 : sh a' b' = some (.inr (.inr (Z.2.1 4, (n1, .inr (.inr (.inr (.inr g)))))))) {x0 x1 : Nat} (hx0 : x0 = al a b) (hx1 : x1 = al a' b') {n : Int32} {N : Nat} (h3 : ¬ n < 0) (hN : n.toNatClampNeg = N) (h4 : N ≤ n0) (h5 : N ≤ n1)
    (hel : ∀ i : Nat, i < N → ∃ (kd j ci : Nat) (tg : yTg) (r : vw_C), f i = some (al kd j) ∧ sh kd j = some (.inl (ci, tg)) ∧ vwCl[ci]? = some r ∧ r.1 = C)
    (hframes : 1 ≤ R.frames) (hlocals : (st.map fun v => v.category).sum + (nativeFrameWords "java/lang/System" "arraycopy" 5 + 11) ≤ R.locals) (d : decode cc pc = .ok (.invokestatic idx, 3)) (hp : pc + 3 = pc')
    (k : J p l e R s m args below meth c nL Z cells slots Q al (shp sh a' b' (.inr (.inr (Z.2.1 4, (n1, .inr (.inr (.inr (.inr (va_cpy f g 0 0 N))))))))) S pc' lv st) : J p l e R s m args below meth c nL Z cells slots Q al sh S pc lv (.int n :: .int 0 :: .ref x1 :: .int 0 :: .ref x0 :: st) := by
  subst hp hx0 hx1 hN
  intro H locs ls hW hS hl
  intro T hT X
  have hc0 : H[al a b]? = some (vp_cell (Z.2.1 4) (n0, .inr (.inr (.inr (.inr f))))) := (hW.2.1 a b _ hs0).2
  have hc1 : H[al a' b']? = some (vp_cell (Z.2.1 4) (n1, .inr (.inr (.inr (.inr g))))) := (hW.2.1 a' b' _ hs1).2
  obtain ⟨kA, comp, r1, r2, r3, -⟩ := (cx.2.1.2 4 (Z.2.1 4, .object "java/lang/Object") rfl).2
  obtain ⟨-, k0, hk0, cm0, hkk0⟩ := (cx.2.1.2 4 (Z.2.1 4, .object "java/lang/Object") rfl).1 n0 (fun j => va_rf (f j))
  obtain ⟨-, k1, hk1, cm1, hkk1⟩ := (cx.2.1.2 4 (Z.2.1 4, .object "java/lang/Object") rfl).1 n1 (fun j => va_rf (g j))
  have nn : n.toInt = (n.toNatClampNeg : Int) := by
    have hz0 : (0 : Int) ≤ n.toInt := by
      have := Int32.not_lt.mp h3
      simpa using Int32.le_iff_toInt_le.mp this
    show n.toInt = ((n.toInt.toNat : Nat) : Int)
    omega
  obtain ⟨cc0, t1, f1, f2, f3⟩ := Cond.castable_spec (va_Nw.use (A := args) rfl (cx.2.2.2.2.2.2.2.2.2.1.1 _ hC))
  cases r3.symm.trans f2
  obtain ⟨vm', X', step⟩ := X.arraycopy cx.1.1 cx.1.2.2.2.1 (cx.1.2.2.2.2 _ hlink) (cx.1.2.2.2.2 _ hnat) (cx.1.2.2.2.2 _ hstat) (cx.1.2.2.2.2 _ hini) (src := al a b) (dst := al a' b') (cs := vp_cell (Z.2.1 4) (n0, .inr (.inr (.inr (.inr f))))) (cd := vp_cell (Z.2.1 4) (n1, .inr (.inr (.inr (.inr g))))) (srcPos := 0) (destPos := 0) (n := n) (by rw [hT]; exact hc0) (by rw [hT]; exact hc1)
    (fun _ h => by cases h) (fun _ h => by cases h) (fun h => by cases h) (fun h => by cases h) hk0 hk1 hkk0 hkk1 rfl (by decide) (by decide) h3
    (by rw [nn]; show ¬ _ > ((arrV (Z.2.1 4) n0 (fun j => va_rf (f j))).slots.size : Int); rw [arrV_size, show (0 : Int32).toInt = 0 by decide]; omega)
    (by rw [nn]; show ¬ _ > ((arrV (Z.2.1 4) n1 (fun j => va_rf (g j))).slots.size : Int); rw [arrV_size, show (0 : Int32).toInt = 0 by decide]; omega)
    (fun vm₁ hal i hi => by
      obtain ⟨kd, j, ci, tg, r, e1, e2, e3, e4⟩ := hel i hi
      have e : (vp_cell (Z.2.1 4) (n0, .inr (.inr (.inr (.inr f))))).slots.getD ((0 : Int32).toNatClampNeg + i) .null = .ref (al kd j) := by
        show (arrV (Z.2.1 4) n0 (fun j => va_rf (f j))).slots.getD _ _ = _
        rw [show (0 : Int32).toNatClampNeg + i = i by rw [show (0 : Int32).toNatClampNeg = 0 by decide]; omega]
        rw [Array.getD_eq_getD_getElem?, arrV_read _ _ (by omega), e1]
        rfl
      rw [e]
      obtain ⟨cellV, g1, g2, g3⟩ := hW.recv cx e2 e3
      rw [e4] at g3
      cases g3.symm.trans f1
      cases hk1.symm.trans r1
      cases hkk1.symm.trans r2
      obtain ⟨kC, hkC, -⟩ := Vm.findClass_spec f1
      obtain ⟨kE, hkE, -⟩ := Vm.findClass_spec r3
      obtain ⟨kC', hkC', -⟩ := hal.2.2 _ _ hkC
      obtain ⟨kE', hkE', -⟩ := hal.2.2 _ _ hkE
      refine ⟨rfl, cellV, (show T.heap[al kd j]? = some cellV by rw [hT]; exact g1), (fun q h => by rw [h] at g2; cases g2), ⟨kC', hkC'⟩, ?_, ?_⟩
      · exact ⟨kE', hkE'⟩
      · show vm₁.assignable _ _ = true
        rw [hal.assignable]
        exact f3)
    (g := F0 m pc ls (.int n :: .int 0 :: .ref (al a' b') :: .int 0 :: .ref (al a b) :: st)) rfl (by rw [cx.1.2.2.1]; exact hl.1) (rest := st) rfl (by rw [cx.1.2.1]; exact d) hframes (by show 2 * 0 + _ + _ ≤ _; omega)
  have e1 : copied (vp_cell (Z.2.1 4) (n0, .inr (.inr (.inr (.inr f))))) (vp_cell (Z.2.1 4) (n1, .inr (.inr (.inr (.inr g))))) 0 0 n = vp_cell (Z.2.1 4) (n1, .inr (.inr (.inr (.inr (va_cpy f g 0 0 n.toNatClampNeg))))) := by
    rw [vp_cell_q, vp_cell_q, vp_cell_q]
    exact va_copied (fun z => va_rf z) (Z.2.1 4) (Z.2.1 4) f g (sp := 0) (dp := 0) (by omega)
  rw [e1] at X' step
  have hlt : al a' b' < H.size := (Array.getElem?_eq_some_iff.mp hc1).1
  have hheap : ((T.setVm vm').setCell (al a' b') (vp_cell (Z.2.1 4) (n1, .inr (.inr (.inr (.inr (va_cpy f g 0 0 n.toNatClampNeg))))))).heap = H.setIfInBounds (al a' b') (vp_cell (Z.2.1 4) (n1, .inr (.inr (.inr (.inr (va_cpy f g 0 0 n.toNatClampNeg)))))) := by rw [← hT]; rfl
  have oq : ∀ q : Nat, q ≠ al a' b' → (H.setIfInBounds (al a' b') (vp_cell (Z.2.1 4) (n1, .inr (.inr (.inr (.inr (va_cpy f g 0 0 n.toNatClampNeg)))))))[q]? = H[q]? := fun q hq => by simp [Array.getElem?_setIfInBounds, Ne.symm hq]
  have hat : yAt Z.1 al S a' b' (.inr (.inr (Z.2.1 4, (n1, .inr (.inr (.inr (.inr (va_cpy f g 0 0 n.toNatClampNeg)))))))) (H.setIfInBounds (al a' b') (vp_cell (Z.2.1 4) (n1, .inr (.inr (.inr (.inr (va_cpy f g 0 0 n.toNatClampNeg))))))) := by
    show (H.setIfInBounds (al a' b') _)[al a' b']? = some _
    simp [Array.getElem?_setIfInBounds, hlt]
  obtain ⟨t, a1, b1⟩ := k _ _ ls (hW.put hs1 (by simp) oq (fun c d j h => rfl) hat (fun _ _ _ _ e => by cases e)) ⟨by simp; exact hS.1, fun q g1 g2 => by
      rw [oq q (fun e => g2 (by rw [e]; exact (hW.2.1 a' b' _ hs1).1))]
      exact hS.2.1 q g1 g2, fun q hq => by
      rcases List.mem_append.mp hq with h | h
      · exact hS.2.2 q h
      · obtain ⟨z, -, hz⟩ := List.mem_map.mp h
        rw [← hz]
        exact (hW.2.1 a' b' _ hs1).1⟩ hl _ hheap X'
  exact ⟨t, step t a1, b1⟩
theorem shp_shp (sh : ySh) (a b : Nat) (x y : yShp) : shp (shp sh a b x) a b y = shp sh a b y := by
  funext c d
  by_cases e : c = a ∧ d = b
  · obtain ⟨rfl, rfl⟩ := e
    rw [shp_self, shp_self]
  · rw [shp_ne _ _ e, shp_ne _ _ e, shp_ne _ _ e]
theorem shp_comm (sh : ySh) {a b c d : Nat} (x y : yShp) (h : ¬ (a = c ∧ b = d)) : shp (shp sh a b x) c d y = shp (shp sh c d y) a b x := by
  funext i j
  by_cases e : i = a ∧ j = b
  · obtain ⟨rfl, rfl⟩ := e
    rw [shp_ne _ _ h, shp_self, shp_self]
  · by_cases e2 : i = c ∧ j = d
    · obtain ⟨rfl, rfl⟩ := e2
      rw [shp_self, shp_ne _ _ e, shp_self]
    · rw [shp_ne _ _ e2, shp_ne _ _ e, shp_ne _ _ e, shp_ne _ _ e2]
end JROWS3
section CALLSP
variable {p : Program} {l : Launch} {e : Env} {R : Room} {s : State} {m : MethodId} {args : Array Value} {below : List Frame} {meth : Method} {c : Code} {cells slots cells1 slots1 : Nat} {Q : State → Prop} {cc : ByteArray} {nL pc pc' : Nat} {own : String} {Ts : List Cond} {Z : yL} {al : yAl} {sh : ySh} {S : yS} {lv : List (Nat × Value)} {rest : List Value}
variable {y : MethodName} {ws ws' : List Cond} {rm : Room} {mc ms idx maxL : Nat} {bytes : ByteArray} {ret : Option FieldType} {As : List Value} {post : yPost}
theorem j_cSP (cx : Cx p s m args c cc nL own Ts Z) (hM : Ct l y ws rm mc ms Z As al sh S post) (hT : GoodIn Ts (va_wsS own idx y ws)) (hw : ws = Cond.code y bytes maxL ret :: ws') (hrc : rm.cells = mc) (hrs : rm.slots = ms) (n : Nat) (hn : As.length = n)
    (hd : y.cls ≠ "java/lang/invoke/MethodHandle" ∧ y.cls ≠ "java/lang/invoke/VarHandle" ∧ (parseMethodDescriptor y.desc).map (fun d => d.parameters.length) = some n) (hR : rm.frames + 1 ≤ R.frames ∧ 8 + (maxL + 11) + rm.locals ≤ R.locals)
    {st0 : List Value} (hst : st0 = As.reverse ++ rest) (hsum : (rest.map fun v => v.category).sum ≤ 8) (d : decode cc pc = .ok (.invokestatic idx, 3)) (hf : cells + mc ≤ R.cells ∧ slots + ms ≤ R.slots) (hp : pc + 3 = pc') (hc1 : cells + mc = cells1) (hs1 : slots + ms = slots1)
    (k : ∀ v al' sh' S', post v al' sh' S' → J p l e R s m args below meth c nL Z cells1 slots1 Q al' sh' S' pc' lv (v.toList ++ rest)) : J p l e R s m args below meth c nL Z cells slots Q al sh S pc lv st0 := by
  subst hn hc1 hs1
  exact j_callS cx hM hT hw hrc hrs hd hR hst hsum d hf hp k
end CALLSP
/-- what grow leaves: a longer array, the elements in it -/
abbrev yQ4 (Z : yL) (n : Nat) (f : Nat → Option Nat) : yShp := .inr (.inr (Z.2.1 4, (n, .inr (.inr (.inr (.inr f))))))
def gP (Z : yL) (al : yAl) (sh : ySh) (S : yS) (K kd n : Nat) (tg : yTg) : yPost := fun v9 al9 sh9 S9 => ∃ (q c2 : Nat) (g : Nat → Option Nat), v9 = some (.ref q) ∧ al9 = alp al (K + 1) c2 q ∧ sh9 = shp (shp sh (K + 1) c2 (yQ4 Z c2 g)) K 0 (.inl (2, tgp tg 1 (some (K + 1, c2)))) ∧ S9 = szero S (K + 1) c2 ∧ n < c2 ∧ 10 ≤ c2 ∧ c2 ≤ 60 ∧ (∀ i, i < n → g i = some (al kd i)) ∧ sh (K + 1) c2 = none ∧ ∀ c', c2 < c' → sh (K + 1) c' = none
theorem nl_of {n : Nat} (h1 : 10 ≤ n) (h2 : n < 41) : nI n + ymax (nI n + 1 - nI n) (nI n >>> (1 &&& 31)) = nI (n + n / 2) ∧ (0 : Int32) < nI n + ymax (nI n + 1 - nI n) (nI n >>> (1 &&& 31)) ∧ ¬ (2147483639 : Int32) < nI n + ymax (nI n + 1 - nI n) (nI n >>> (1 &&& 31)) := by
  have key : ∀ k : Fin 41, 10 ≤ k.val → nI k.val + ymax (nI k.val + 1 - nI k.val) (nI k.val >>> (1 &&& 31)) = nI (k.val + k.val / 2) ∧ (0 : Int32) < nI k.val + ymax (nI k.val + 1 - nI k.val) (nI k.val >>> (1 &&& 31)) ∧ ¬ (2147483639 : Int32) < nI k.val + ymax (nI k.val + 1 - nI k.val) (nI k.val >>> (1 &&& 31)) := by decide +kernel
  exact key ⟨n, h2⟩ h1
