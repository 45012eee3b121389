section STARTSH
variable {l : Launch} {y : MethodName} {ws ws' : List Cond} {rm : Room} {mc ms : Nat} {Z : yL} {av : List Value} {al : yAl} {sh : ySh} {S : yS} {post : yPost} {bytes : ByteArray} {maxL : Nat} {ret : Option FieldType} {lv : List (Nat × Value)} {hh : List (Nat × Nat × Nat × Nat)}
theorem Ct.ofH (hy : plainName y.cls = true) (hw : ws = Cond.codeWith y bytes maxL ret hh :: ws') (hlen : (lg_sl av).length ≤ maxL) (hlv : lv_args 0 av = lv)
    (body : ∀ p e s m below meth c, Cx p s m av.toArray c bytes maxL y.cls ws Z → meth.locks = false → meth.sig.returnType = ret → c.exceptionTable.toList = tableOf hh → J p l e rm s m av.toArray below meth c maxL Z 0 0 (MQ below (Qn Z post) av.toArray s mc ms (yF Z)) al sh S 0 lv []) : Ct l y ws rm mc ms Z av al sh S post := by
  unfold Ct Met
  refine MetFree.of_bodyS (code := bytes) (maxLocals := maxL) (ret := ret) hy ?_ ?_
  · intro args s m h hn
    obtain ⟨m9, meth, c, hn9, h1, h2, h3, h4, -, h5, h6, -⟩ := Cond.codeWith_spec (atoms_spec (ws := ws) h _ (by rw [hw]; exact List.mem_cons_self))
    cases hn.symm.trans hn9
    exact ⟨meth, c, h1, h2, h3, h4, h5, h6⟩
  · intro p e s m args below meth c s₁ B hml hP _
    have hh0 : s₁.heap = s.heap := by rw [B.state]; rfl
    have ht := vx_table (x := y) B (atoms_spec (ws := ws) B.pre _ (by rw [hw]; exact List.mem_cons_self))
    obtain ⟨rfl, hP⟩ := hP
    obtain ⟨t, a1, o, b1, b2, b3⟩ := J.start hlen hlv hP (body p e s m below meth c ⟨⟨B.exec, B.bytes, hml, findClass_of_methodNamed B.named, atoms_spec (ws := ws) B.pre⟩, hP.2.1, hP.1.1, hP.2.2⟩ B.notSynchronized B.returns ht) s₁ hh0 (Stand.of_body B)
    exact ⟨t, o, a1, b1, b2, ⟨b3.1, b3.2⟩⟩
end STARTSH
section CATCH
variable {p : Program} {l : Launch} {e : Env} {R : Room} {s : State} {m : MethodId} {args : Array Value} {below : List Frame} {meth : Method} {c : Code} {cells slots : Nat} {Q : State → Prop} {cc : ByteArray} {nL pc : Nat} {own : String} {Ts : List Cond} {Z : yL} {al : yAl} {sh : ySh} {S : yS} {lv : List (Nat × Value)}
theorem jx_catch (cx : Cx p s m args c cc nL own Ts Z) {hh : List (Nat × Nat × Nat × Nat)} (ht : c.exceptionTable.toList = tableOf hh) {E : String} (pre : List ExceptionTableEntry) (x : ExceptionTableEntry) (suf : List ExceptionTableEntry) (hsp : tableOf hh = pre ++ x :: suf) (hE : E ∈ yExc)
    (hpass : ∀ z ∈ pre, z.catchType ≠ 0 ∧ ∃ nm, Cond.classLink own z.catchType nm ∈ Ts ∧ nm ∈ yExcC ∧ E ≠ nm) (hx : covers x pc = true) (h0 : x.catchType ≠ 0) (hlink : Cond.classLink own x.catchType E ∈ Ts) (k : ∀ q : Nat, J p l e R s m args below meth c nL Z cells slots Q al sh S x.handlerPc lv [.ref q]) : JX p l e R s m args below meth c nL Z cells slots Q al sh S pc lv E := by
  intro H locs ls q ce st hW hS hl h1 h2 h3
  refine vx_catch (name := E) cx.1.2.2.2.1 pre x suf (ht.trans hsp) (fun z hz => ?_) hx h0 (cx.1.2.2.2.2 _ hlink) ?_ h1 h2 h3 (k q H locs ls hW hS hl)
  · obtain ⟨g0, nm, g1, g2, g3⟩ := hpass z hz
    exact Or.inr ⟨g0, nm, cx.1.2.2.2.2 _ g1, cx.2.2.2.2.2.2.2.2.2.1.2.2 E hE nm g2 g3⟩
  · refine va_Nw.use (A := args) rfl (cx.2.2.2.2.2.2.2.2.2.1.1 (E, E) ?_)
    exact List.mem_append_left _ (List.mem_map.mpr ⟨E, hE, rfl⟩)
end CATCH
