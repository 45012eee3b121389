section JNEST
variable {p : Program} {l : Launch} {e : Env} {R : Room} {s : State} {m : MethodId} {args : Array Value} {below : List Frame} {meth : Method} {c : Code} {cells slots cells1 slots1 : Nat} {Q : State → Prop} {cc : ByteArray} {nL pc pc' : Nat} {own : String} {Ts : List Cond} {Z : yL} {al : yAl} {sh : ySh} {S : yS} {lv : List (Nat × Value)} {st rest : List Value}
theorem Cx.nest (cx : Cx p s m args c cc nL own Ts Z) : yNS s := cx.2.2.2.2.2.2.2.2.2.2.2.2
/-- a private field of the nest mate, read -/
theorem j_getN (cx : Cx p s m args c cc nL own Ts Z) {a b fk idx : Nat} {tg : yTg} (hown : own = "TerminalYardLaw") (hs : sh a b = some (.inl (6, tg))) (hin : ∀ w ∈ u_ws RX3 TX3 14, w ∈ Ts) (hfk : fk < 14) (hlink : (idx, (TX3 fk).2.1, (TX3 fk).2.2.1) ∈ yNF) (href : (TX3 fk).1 = "TerminalYardLaw$Book") {v : Value} (hv : yV al S a b tg fk = v) {q : Nat} (hq : q = al a b) (d : decode cc pc = .ok (.getfield idx, 3)) (hp : pc + 3 = pc') (k : J p l e R s m args below meth c nL Z cells slots Q al sh S pc' lv (v :: st)) : J p l e R s m args below meth c nL Z cells slots Q al sh S pc lv (.ref q :: st) := by
  subst hp hq hv hown
  intro H locs ls hW hS hl
  obtain ⟨r, h1, cell, q1, q2, q3, q4⟩ := (hW.2.1 a b _ hs).2
  have hc : vwCl[6]? = some (RX3, TX3, 14) := rfl
  have hr : r = (RX3, TX3, 14) := Option.some.inj (h1.symm.trans hc)
  subst hr
  obtain ⟨hSl, hfc, kC, hkC, hkind⟩ := cx.2.1.1 6 _ hc
  obtain ⟨cf, kf, fi, f, hi, hsl⟩ := hSl fk hfk
  refine va_Wgetf cx.1.1 cx.1.2.1 cx.1.2.2.2.1 (va_Nw.use (A := args) rfl (cx.nest.1 _ hlink)) (by rw [← href]; exact hi) (u_facts hfc hkC (u_lays cx.1.2.2.2.2 hin hfk) hi).1 q1 (by rw [q3]; exact fun h => by cases h) (v := yV al S a b tg fk) ?_ rfl rfl d (k H locs ls hW hS hl)
  rw [hsl, q4 fk hfk]
theorem j_putiN (cx : Cx p s m args c cc nL own Ts Z) {a b fk idx : Nat} {tg : yTg} (hown : own = "TerminalYardLaw") (hs : sh a b = some (.inl (6, tg))) (hin : ∀ w ∈ u_ws RX3 TX3 14, w ∈ Ts) (hfk : fk < 14) (hlink : (idx, (TX3 fk).2.1, (TX3 fk).2.2.1) ∈ yNF) (href : (TX3 fk).1 = "TerminalYardLaw$Book") (hfin : (TX3 fk).2.2.2 = false) (hd : parseFieldDescriptor (TX3 fk).2.2.1 = some .int) {x : Int32} (htg : tg fk = none) {q : Nat} (hq : q = al a b) (d : decode cc pc = .ok (.putfield idx, 3)) (hp : pc + 3 = pc') (k : J p l e R s m args below meth c nL Z cells slots Q al sh (sup S a b fk x) pc' lv st) : J p l e R s m args below meth c nL Z cells slots Q al sh S pc lv (.int x :: .ref q :: st) := by
  subst hp hq hown
  intro H locs ls hW hS hl
  obtain ⟨r, h1, cell, q1, q2, q3, q4⟩ := (hW.2.1 a b _ hs).2
  have hc : vwCl[6]? = some (RX3, TX3, 14) := rfl
  have hr : r = (RX3, TX3, 14) := Option.some.inj (h1.symm.trans hc)
  subst hr
  obtain ⟨hSl, hfc, kC, hkC, hkind⟩ := cx.2.1.1 6 _ hc
  obtain ⟨cf, kf, fi, f, hi, hsl⟩ := hSl fk hfk
  have hap := va_apart (own := "TerminalYardLaw") cx.1.2.2.2.2 hin tyX3 tyX3_ok nmX3 cx.2.1 hc
  have hlay := cx.1.2.2.2.2 _ (hin _ (u_in_lay hfk))
  unfold u_lay at hlay
  rw [if_neg (by rw [hfin]; decide)] at hlay
  have hst := (u_facts hfc hkC (u_lays cx.1.2.2.2.2 hin hfk) hi).1
  have h6 := u_store hfc hkC hkind hlay hi hd (v := .int x) rfl rfl
  refine va_WputK cx.1.1 cx.1.2.1 (f := f) cx.1.2.2.2.1 (va_Nw.use (A := args) rfl (cx.nest.1 _ hlink)) (by rw [← href]; exact hi) hst (by rw [q2]; exact h6) q1 q3 (by rw [hsl]; exact k2_hasslot (q4 fk hfk)) rfl rfl d fun H' e1 e2 e3 => ?_
  rw [hsl] at e1 ⊢
  have hn : yW Z.1 Z.2.2.1 al (shp sh a b (.inl (6, tg))) (sup S a b fk x) H' := hW.put hs e2 e3 (fun c d j h => sup_off S x h) (yAt_seti hc htg q2 q3 q4 hap hfk e1) (fun ci' tg' j k' e hj => by cases e; exact hW.2.2.2 a b _ _ j k' hs hj)
  rw [shp_id _ hs] at hn
  exact k H' _ ls hn (hS.put e2 e3 (hW.2.1 a b _ hs).1) hl
/-- the nest mate's private constructor, called -/
theorem j_cIPN (cx : Cx p s m args c cc nL own Ts Z) (hown : own = "TerminalYardLaw") {ws ws' : List Cond} {rm : Room} {mc ms maxL : Nat} {bytes : ByteArray} {post : yPost} {b : Nat} (hM : Ct l yNM ws rm mc ms Z [.ref b] al sh S post) (hT : GoodIn Ts ws) (hw : ws = Cond.code yNM bytes maxL none :: ws') (hrc : rm.cells = mc) (hrs : rm.slots = ms)
    (hini : Cond.initialized yNM.cls ∈ Ts) (hin : Cond.instanceMethod yNM ∈ Ts) (hR : rm.frames + 1 ≤ R.frames ∧ 8 + (maxL + 11) + rm.locals ≤ R.locals)
    {st0 : List Value} (hst : st0 = .ref b :: rest) (hsum : (rest.map fun v => v.category).sum ≤ 8) (d : decode cc pc = .ok (.invokespecial 172, 3)) (hf : cells + mc ≤ R.cells ∧ slots + ms ≤ R.slots) (hp : pc + 3 = pc') (hc1 : cells + mc = cells1) (hs1 : slots + ms = slots1)
    (k : ∀ v al' sh' S', post v al' sh' S' → J p l e R s m args below meth c nL Z cells1 slots1 Q al' sh' S' pc' lv (v.toList ++ rest)) : J p l e R s m args below meth c nL Z cells slots Q al sh S pc lv st0 := by
  subst hc1 hs1 hst hown
  refine J.behind (a := #[Value.ref b]) hp (fun H locs ls hW hS hl => ?_) k
  exact va_runIN cx.1 hM ⟨va_cnB 0 cx.1.2.2.2.2 hT hw hrc hrs cx.nest.2 (cx.1.2.2.2.2 _ hini) (by decide +kernel) hR, rfl, cx.1.2.2.2.2 _ hin⟩ (As := []) ⟨Pn.blind, Pn.at cx hW hS⟩ rfl rfl hl.1 rfl (lv_room hsum) d hf
end JNEST
