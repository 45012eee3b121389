section JROWS
variable {p : Program} {l : Launch} {e : Env} {R : Room} {s : State} {m : MethodId} {args : Array Value} {below : List Frame} {meth : Method} {c : Code} {cells slots : Nat} {Q : State → Prop} {cc : ByteArray} {nL pc pc' : Nat} {own : String} {Ts : List Cond} {Z : yL} {al : yAl} {sh : ySh} {S : yS} {lv lv' : List (Nat × Value)} {st rest : List Value}
theorem j_iconst (cx : Cx p s m args c cc nL own Ts Z) {n : Int} {v : Int32} (d : decode cc pc = .ok (.iconst n, 1)) (hv : Int32.ofInt n = v) (hp : pc + 1 = pc') (k : J p l e R s m args below meth c nL Z cells slots Q al sh S pc' lv (.int v :: st)) : J p l e R s m args below meth c nL Z cells slots Q al sh S pc lv (st) := by
  subst hp
  exact fun H locs ls hW hS hl => lv_iconst cx.1.1 cx.1.2.1 d hv (k H locs ls hW hS hl)
theorem j_bipush (cx : Cx p s m args c cc nL own Ts Z) {n : Int} {v : Int32} (d : decode cc pc = .ok (.bipush n, 2)) (hv : (Int8.ofInt n).toInt32 = v) (hp : pc + 2 = pc') (k : J p l e R s m args below meth c nL Z cells slots Q al sh S pc' lv (.int v :: st)) : J p l e R s m args below meth c nL Z cells slots Q al sh S pc lv (st) := by
  subst hp
  exact fun H locs ls hW hS hl => lv_bipush cx.1.1 cx.1.2.1 d hv (k H locs ls hW hS hl)
theorem j_sipush (cx : Cx p s m args c cc nL own Ts Z) {n : Int} {v : Int32} (d : decode cc pc = .ok (.sipush n, 3)) (hv : (Int16.ofInt n).toInt32 = v) (hp : pc + 3 = pc') (k : J p l e R s m args below meth c nL Z cells slots Q al sh S pc' lv (.int v :: st)) : J p l e R s m args below meth c nL Z cells slots Q al sh S pc lv (st) := by
  subst hp
  exact fun H locs ls hW hS hl => lv_sipush cx.1.1 cx.1.2.1 d hv (k H locs ls hW hS hl)
theorem j_iload_n (cx : Cx p s m args c cc nL own Ts Z) {kk : Fin 4} {i : Nat} {x : Int32} {j : Nat} (d : decode cc pc = .ok (.iload_n kk, 1)) (hi : (kk : Nat) = i) (hk : lv[j]? = some (i, .int x)) (hp : pc + 1 = pc') (k : J p l e R s m args below meth c nL Z cells slots Q al sh S pc' lv (.int x :: st)) : J p l e R s m args below meth c nL Z cells slots Q al sh S pc lv (st) := by
  subst hp
  exact fun H locs ls hW hS hl => lv_iload_n cx.1.1 cx.1.2.1 d hi (lv_at hl j hk) (k H locs ls hW hS hl)
theorem j_iload (cx : Cx p s m args c cc nL own Ts Z) {i : Nat} {x : Int32} {j : Nat} (d : decode cc pc = .ok (.iload i, 2)) (hk : lv[j]? = some (i, .int x)) (hp : pc + 2 = pc') (k : J p l e R s m args below meth c nL Z cells slots Q al sh S pc' lv (.int x :: st)) : J p l e R s m args below meth c nL Z cells slots Q al sh S pc lv (st) := by
  subst hp
  exact fun H locs ls hW hS hl => lv_iload cx.1.1 cx.1.2.1 d (lv_at hl j hk) (k H locs ls hW hS hl)
theorem j_aload_n (cx : Cx p s m args c cc nL own Ts Z) {kk : Fin 4} {i : Nat} {x : Nat} {j : Nat} (d : decode cc pc = .ok (.aload_n kk, 1)) (hi : (kk : Nat) = i) (hk : lv[j]? = some (i, .ref x)) (hp : pc + 1 = pc') (k : J p l e R s m args below meth c nL Z cells slots Q al sh S pc' lv (.ref x :: st)) : J p l e R s m args below meth c nL Z cells slots Q al sh S pc lv (st) := by
  subst hp
  exact fun H locs ls hW hS hl => lv_aload_n cx.1.1 cx.1.2.1 d hi (lv_at hl j hk) (k H locs ls hW hS hl)
theorem j_aload (cx : Cx p s m args c cc nL own Ts Z) {i : Nat} {x : Nat} {j : Nat} (d : decode cc pc = .ok (.aload i, 2)) (hk : lv[j]? = some (i, .ref x)) (hp : pc + 2 = pc') (k : J p l e R s m args below meth c nL Z cells slots Q al sh S pc' lv (.ref x :: st)) : J p l e R s m args below meth c nL Z cells slots Q al sh S pc lv (st) := by
  subst hp
  exact fun H locs ls hW hS hl => lv_aload cx.1.1 cx.1.2.1 d (lv_at hl j hk) (k H locs ls hW hS hl)
theorem j_fload_n (cx : Cx p s m args c cc nL own Ts Z) {kk : Fin 4} {i : Nat} {x : UInt32} {j : Nat} (d : decode cc pc = .ok (.fload_n kk, 1)) (hi : (kk : Nat) = i) (hk : lv[j]? = some (i, .float x)) (hp : pc + 1 = pc') (k : J p l e R s m args below meth c nL Z cells slots Q al sh S pc' lv (.float x :: st)) : J p l e R s m args below meth c nL Z cells slots Q al sh S pc lv (st) := by
  subst hp
  exact fun H locs ls hW hS hl => lv_fload_n cx.1.1 cx.1.2.1 d hi (lv_at hl j hk) (k H locs ls hW hS hl)
theorem j_fload (cx : Cx p s m args c cc nL own Ts Z) {i : Nat} {x : UInt32} {j : Nat} (d : decode cc pc = .ok (.fload i, 2)) (hk : lv[j]? = some (i, .float x)) (hp : pc + 2 = pc') (k : J p l e R s m args below meth c nL Z cells slots Q al sh S pc' lv (.float x :: st)) : J p l e R s m args below meth c nL Z cells slots Q al sh S pc lv (st) := by
  subst hp
  exact fun H locs ls hW hS hl => lv_fload cx.1.1 cx.1.2.1 d (lv_at hl j hk) (k H locs ls hW hS hl)
theorem j_dload_n (cx : Cx p s m args c cc nL own Ts Z) {kk : Fin 4} {i : Nat} {x : UInt64} {j : Nat} (d : decode cc pc = .ok (.dload_n kk, 1)) (hi : (kk : Nat) = i) (hk : lv[j]? = some (i, .double x)) (hp : pc + 1 = pc') (k : J p l e R s m args below meth c nL Z cells slots Q al sh S pc' lv (.double x :: st)) : J p l e R s m args below meth c nL Z cells slots Q al sh S pc lv (st) := by
  subst hp
  exact fun H locs ls hW hS hl => lv_dload_n cx.1.1 cx.1.2.1 d hi (lv_at hl j hk) (k H locs ls hW hS hl)
theorem j_dload (cx : Cx p s m args c cc nL own Ts Z) {i : Nat} {x : UInt64} {j : Nat} (d : decode cc pc = .ok (.dload i, 2)) (hk : lv[j]? = some (i, .double x)) (hp : pc + 2 = pc') (k : J p l e R s m args below meth c nL Z cells slots Q al sh S pc' lv (.double x :: st)) : J p l e R s m args below meth c nL Z cells slots Q al sh S pc lv (st) := by
  subst hp
  exact fun H locs ls hW hS hl => lv_dload cx.1.1 cx.1.2.1 d (lv_at hl j hk) (k H locs ls hW hS hl)
theorem j_istore_n (cx : Cx p s m args c cc nL own Ts Z) {kk : Fin 4} {i : Nat} {x : Int32} (d : decode cc pc = .ok (.istore_n kk, 1)) (hi : (kk : Nat) = i) (hn : i < nL) (hl' : (i, Value.int x) :: lv.filter (fun q => !(q.1 == i) && !(q.1 + 1 == i && q.2.category == 2)) = lv') (hp : pc + 1 = pc') (k : J p l e R s m args below meth c nL Z cells slots Q al sh S pc' lv' st) : J p l e R s m args below meth c nL Z cells slots Q al sh S pc lv (.int x :: st) := by
  subst hp
  exact fun H locs ls hW hS hl => lv_istore_n cx.1.1 cx.1.2.1 d hi hl hn hl' (fun ls' h' => k H locs ls' hW hS h')
theorem j_istore (cx : Cx p s m args c cc nL own Ts Z) {i : Nat} {x : Int32} (d : decode cc pc = .ok (.istore i, 2)) (hn : i < nL) (hl' : (i, Value.int x) :: lv.filter (fun q => !(q.1 == i) && !(q.1 + 1 == i && q.2.category == 2)) = lv') (hp : pc + 2 = pc') (k : J p l e R s m args below meth c nL Z cells slots Q al sh S pc' lv' st) : J p l e R s m args below meth c nL Z cells slots Q al sh S pc lv (.int x :: st) := by
  subst hp
  exact fun H locs ls hW hS hl => lv_istore cx.1.1 cx.1.2.1 d hl hn hl' (fun ls' h' => k H locs ls' hW hS h')
theorem j_astore_n (cx : Cx p s m args c cc nL own Ts Z) {kk : Fin 4} {i : Nat} {x : Nat} (d : decode cc pc = .ok (.astore_n kk, 1)) (hi : (kk : Nat) = i) (hn : i < nL) (hl' : (i, Value.ref x) :: lv.filter (fun q => !(q.1 == i) && !(q.1 + 1 == i && q.2.category == 2)) = lv') (hp : pc + 1 = pc') (k : J p l e R s m args below meth c nL Z cells slots Q al sh S pc' lv' st) : J p l e R s m args below meth c nL Z cells slots Q al sh S pc lv (.ref x :: st) := by
  subst hp
  exact fun H locs ls hW hS hl => lv_astore_n cx.1.1 cx.1.2.1 d hi hl hn hl' (fun ls' h' => k H locs ls' hW hS h')
theorem j_astore (cx : Cx p s m args c cc nL own Ts Z) {i : Nat} {x : Nat} (d : decode cc pc = .ok (.astore i, 2)) (hn : i < nL) (hl' : (i, Value.ref x) :: lv.filter (fun q => !(q.1 == i) && !(q.1 + 1 == i && q.2.category == 2)) = lv') (hp : pc + 2 = pc') (k : J p l e R s m args below meth c nL Z cells slots Q al sh S pc' lv' st) : J p l e R s m args below meth c nL Z cells slots Q al sh S pc lv (.ref x :: st) := by
  subst hp
  exact fun H locs ls hW hS hl => lv_astore cx.1.1 cx.1.2.1 d hl hn hl' (fun ls' h' => k H locs ls' hW hS h')
theorem j_fstore_n (cx : Cx p s m args c cc nL own Ts Z) {kk : Fin 4} {i : Nat} {x : UInt32} (d : decode cc pc = .ok (.fstore_n kk, 1)) (hi : (kk : Nat) = i) (hn : i < nL) (hl' : (i, Value.float x) :: lv.filter (fun q => !(q.1 == i) && !(q.1 + 1 == i && q.2.category == 2)) = lv') (hp : pc + 1 = pc') (k : J p l e R s m args below meth c nL Z cells slots Q al sh S pc' lv' st) : J p l e R s m args below meth c nL Z cells slots Q al sh S pc lv (.float x :: st) := by
  subst hp
  exact fun H locs ls hW hS hl => lv_fstore_n cx.1.1 cx.1.2.1 d hi hl hn hl' (fun ls' h' => k H locs ls' hW hS h')
theorem j_fstore (cx : Cx p s m args c cc nL own Ts Z) {i : Nat} {x : UInt32} (d : decode cc pc = .ok (.fstore i, 2)) (hn : i < nL) (hl' : (i, Value.float x) :: lv.filter (fun q => !(q.1 == i) && !(q.1 + 1 == i && q.2.category == 2)) = lv') (hp : pc + 2 = pc') (k : J p l e R s m args below meth c nL Z cells slots Q al sh S pc' lv' st) : J p l e R s m args below meth c nL Z cells slots Q al sh S pc lv (.float x :: st) := by
  subst hp
  exact fun H locs ls hW hS hl => lv_fstore cx.1.1 cx.1.2.1 d hl hn hl' (fun ls' h' => k H locs ls' hW hS h')
theorem j_dstore_n (cx : Cx p s m args c cc nL own Ts Z) {kk : Fin 4} {i : Nat} {x : UInt64} (d : decode cc pc = .ok (.dstore_n kk, 1)) (hi : (kk : Nat) = i) (hn : i + 1 < nL) (hl' : (i, Value.double x) :: lv.filter (fun q => !(q.1 == i) && (!(q.1 == i + 1) && !(q.1 + 1 == i && q.2.category == 2))) = lv') (hp : pc + 1 = pc') (k : J p l e R s m args below meth c nL Z cells slots Q al sh S pc' lv' st) : J p l e R s m args below meth c nL Z cells slots Q al sh S pc lv (.double x :: st) := by
  subst hp
  exact fun H locs ls hW hS hl => lv_dstore_n cx.1.1 cx.1.2.1 d hi hl hn hl' (fun ls' h' => k H locs ls' hW hS h')
theorem j_dstore (cx : Cx p s m args c cc nL own Ts Z) {i : Nat} {x : UInt64} (d : decode cc pc = .ok (.dstore i, 2)) (hn : i + 1 < nL) (hl' : (i, Value.double x) :: lv.filter (fun q => !(q.1 == i) && (!(q.1 == i + 1) && !(q.1 + 1 == i && q.2.category == 2))) = lv') (hp : pc + 2 = pc') (k : J p l e R s m args below meth c nL Z cells slots Q al sh S pc' lv' st) : J p l e R s m args below meth c nL Z cells slots Q al sh S pc lv (.double x :: st) := by
  subst hp
  exact fun H locs ls hW hS hl => lv_dstore cx.1.1 cx.1.2.1 d hl hn hl' (fun ls' h' => k H locs ls' hW hS h')
theorem j_iinc (cx : Cx p s m args c cc nL own Ts Z) {i j : Nat} {n : Int} {x v : Int32} (d : decode cc pc = .ok (.iinc i n, 3)) (hk : lv[j]? = some (i, .int x)) (hv : x + Int32.ofInt n = v) (hn : i < nL) (hl' : (i, Value.int v) :: lv.filter (fun q => !(q.1 == i) && !(q.1 + 1 == i && q.2.category == 2)) = lv') (hp : pc + 3 = pc') (k : J p l e R s m args below meth c nL Z cells slots Q al sh S pc' lv' st) : J p l e R s m args below meth c nL Z cells slots Q al sh S pc lv st := by
  subst hp
  exact fun H locs ls hW hS hl => lv_iinc (k := j) cx.1.1 cx.1.2.1 d hl hk hv hn hl' (fun ls' h' => k H locs ls' hW hS h')
theorem j_iadd (cx : Cx p s m args c cc nL own Ts Z) {x y : Int32} (d : decode cc pc = .ok (.iadd, 1))  (hp : pc + 1 = pc') (k : J p l e R s m args below meth c nL Z cells slots Q al sh S pc' lv (.int (x + y) :: st)) : J p l e R s m args below meth c nL Z cells slots Q al sh S pc lv (.int y :: .int x :: st) := by
  subst hp
  exact fun H locs ls hW hS hl => lv_iadd cx.1.1 cx.1.2.1 d  (k H locs ls hW hS hl)
theorem j_isub (cx : Cx p s m args c cc nL own Ts Z) {x y : Int32} (d : decode cc pc = .ok (.isub, 1))  (hp : pc + 1 = pc') (k : J p l e R s m args below meth c nL Z cells slots Q al sh S pc' lv (.int (x - y) :: st)) : J p l e R s m args below meth c nL Z cells slots Q al sh S pc lv (.int y :: .int x :: st) := by
  subst hp
  exact fun H locs ls hW hS hl => lv_isub cx.1.1 cx.1.2.1 d  (k H locs ls hW hS hl)
theorem j_imul (cx : Cx p s m args c cc nL own Ts Z) {x y : Int32} (d : decode cc pc = .ok (.imul, 1))  (hp : pc + 1 = pc') (k : J p l e R s m args below meth c nL Z cells slots Q al sh S pc' lv (.int (x * y) :: st)) : J p l e R s m args below meth c nL Z cells slots Q al sh S pc lv (.int y :: .int x :: st) := by
  subst hp
  exact fun H locs ls hW hS hl => lv_imul cx.1.1 cx.1.2.1 d  (k H locs ls hW hS hl)
theorem j_iand (cx : Cx p s m args c cc nL own Ts Z) {x y : Int32} (d : decode cc pc = .ok (.iand, 1))  (hp : pc + 1 = pc') (k : J p l e R s m args below meth c nL Z cells slots Q al sh S pc' lv (.int (x &&& y) :: st)) : J p l e R s m args below meth c nL Z cells slots Q al sh S pc lv (.int y :: .int x :: st) := by
  subst hp
  exact fun H locs ls hW hS hl => lv_iand cx.1.1 cx.1.2.1 d  (k H locs ls hW hS hl)
theorem j_ishr (cx : Cx p s m args c cc nL own Ts Z) {x y : Int32} (d : decode cc pc = .ok (.ishr, 1))  (hp : pc + 1 = pc') (k : J p l e R s m args below meth c nL Z cells slots Q al sh S pc' lv (.int (x >>> (y &&& 31)) :: st)) : J p l e R s m args below meth c nL Z cells slots Q al sh S pc lv (.int y :: .int x :: st) := by
  subst hp
  exact fun H locs ls hW hS hl => lv_ishr cx.1.1 cx.1.2.1 d  (k H locs ls hW hS hl)
theorem j_i2l (cx : Cx p s m args c cc nL own Ts Z) {x : Int32} {v : Int64} (d : decode cc pc = .ok (.i2l, 1)) (hv : x.toInt64 = v) (hp : pc + 1 = pc') (k : J p l e R s m args below meth c nL Z cells slots Q al sh S pc' lv (.long v :: st)) : J p l e R s m args below meth c nL Z cells slots Q al sh S pc lv (.int x :: st) := by
  subst hp
  exact fun H locs ls hW hS hl => lv_i2l cx.1.1 cx.1.2.1 d hv (k H locs ls hW hS hl)
theorem j_i2f (cx : Cx p s m args c cc nL own Ts Z) {x : Int32} (d : decode cc pc = .ok (.i2f, 1))  (hp : pc + 1 = pc') (k : J p l e R s m args below meth c nL Z cells slots Q al sh S pc' lv (.float (FP.i2f x) :: st)) : J p l e R s m args below meth c nL Z cells slots Q al sh S pc lv (.int x :: st) := by
  subst hp
  exact fun H locs ls hW hS hl => lv_i2f cx.1.1 cx.1.2.1 d  (k H locs ls hW hS hl)
theorem j_i2d (cx : Cx p s m args c cc nL own Ts Z) {x : Int32} (d : decode cc pc = .ok (.i2d, 1))  (hp : pc + 1 = pc') (k : J p l e R s m args below meth c nL Z cells slots Q al sh S pc' lv (.double (FP.i2d x) :: st)) : J p l e R s m args below meth c nL Z cells slots Q al sh S pc lv (.int x :: st) := by
  subst hp
  exact fun H locs ls hW hS hl => lv_i2d cx.1.1 cx.1.2.1 d  (k H locs ls hW hS hl)
theorem j_f2d (cx : Cx p s m args c cc nL own Ts Z) {x : UInt32} (d : decode cc pc = .ok (.f2d, 1)) (hne : vf_n64 (FP.f2d x)) (hp : pc + 1 = pc') (k : J p l e R s m args below meth c nL Z cells slots Q al sh S pc' lv (.double (FP.f2d x) :: st)) : J p l e R s m args below meth c nL Z cells slots Q al sh S pc lv (.float x :: st) := by
  subst hp
  exact fun H locs ls hW hS hl => lv_f2d cx.1.1 cx.1.2.1 d hne (k H locs ls hW hS hl)
theorem j_fdiv (cx : Cx p s m args c cc nL own Ts Z) {x y : UInt32} (d : decode cc pc = .ok (.fdiv, 1)) (hne : vf_n32 (FP.fdiv x y)) (hp : pc + 1 = pc') (k : J p l e R s m args below meth c nL Z cells slots Q al sh S pc' lv (.float (FP.fdiv x y) :: st)) : J p l e R s m args below meth c nL Z cells slots Q al sh S pc lv (.float y :: .float x :: st) := by
  subst hp
  exact fun H locs ls hW hS hl => lv_fdiv cx.1.1 cx.1.2.1 d hne (k H locs ls hW hS hl)
theorem j_ddiv (cx : Cx p s m args c cc nL own Ts Z) {x y : UInt64} (d : decode cc pc = .ok (.ddiv, 1)) (hne : vf_n64 (FP.ddiv x y)) (hp : pc + 1 = pc') (k : J p l e R s m args below meth c nL Z cells slots Q al sh S pc' lv (.double (FP.ddiv x y) :: st)) : J p l e R s m args below meth c nL Z cells slots Q al sh S pc lv (.double y :: .double x :: st) := by
  subst hp
  exact fun H locs ls hW hS hl => lv_ddiv cx.1.1 cx.1.2.1 d hne (k H locs ls hW hS hl)
theorem j_fcmp (cx : Cx p s m args c cc nL own Ts Z) {x y : UInt32} {op : CmpOp} (d : decode cc pc = .ok (.fcmp op, 1))  (hp : pc + 1 = pc') (k : J p l e R s m args below meth c nL Z cells slots Q al sh S pc' lv (.int (Op.cmpValue (FP.fcmp x y) op) :: st)) : J p l e R s m args below meth c nL Z cells slots Q al sh S pc lv (.float y :: .float x :: st) := by
  subst hp
  exact fun H locs ls hW hS hl => lv_fcmp cx.1.1 cx.1.2.1 d  (k H locs ls hW hS hl)
theorem j_dcmp (cx : Cx p s m args c cc nL own Ts Z) {x y : UInt64} {op : CmpOp} (d : decode cc pc = .ok (.dcmp op, 1))  (hp : pc + 1 = pc') (k : J p l e R s m args below meth c nL Z cells slots Q al sh S pc' lv (.int (Op.cmpValue (FP.dcmp x y) op) :: st)) : J p l e R s m args below meth c nL Z cells slots Q al sh S pc lv (.double y :: .double x :: st) := by
  subst hp
  exact fun H locs ls hW hS hl => lv_dcmp cx.1.1 cx.1.2.1 d  (k H locs ls hW hS hl)
theorem j_fconst0 (cx : Cx p s m args c cc nL own Ts Z)  (d : decode cc pc = .ok (.fconst 0, 1))  (hp : pc + 1 = pc') (k : J p l e R s m args below meth c nL Z cells slots Q al sh S pc' lv (.float 0 :: st)) : J p l e R s m args below meth c nL Z cells slots Q al sh S pc lv (st) := by
  subst hp
  exact fun H locs ls hW hS hl => lv_fconst0 cx.1.1 cx.1.2.1 d  (k H locs ls hW hS hl)
theorem j_dconst0 (cx : Cx p s m args c cc nL own Ts Z)  (d : decode cc pc = .ok (.dconst 0, 1))  (hp : pc + 1 = pc') (k : J p l e R s m args below meth c nL Z cells slots Q al sh S pc' lv (.double 0 :: st)) : J p l e R s m args below meth c nL Z cells slots Q al sh S pc lv (st) := by
  subst hp
  exact fun H locs ls hW hS hl => lv_dconst0 cx.1.1 cx.1.2.1 d  (k H locs ls hW hS hl)
theorem j_dup (cx : Cx p s m args c cc nL own Ts Z) {va : Value} (d : decode cc pc = .ok (.dup, 1)) (hva : va.category = 1) (hp : pc + 1 = pc') (k : J p l e R s m args below meth c nL Z cells slots Q al sh S pc' lv (va :: va :: st)) : J p l e R s m args below meth c nL Z cells slots Q al sh S pc lv (va :: st) := by
  subst hp
  exact fun H locs ls hW hS hl => lv_dup cx.1.1 cx.1.2.1 d hva (k H locs ls hW hS hl)
theorem j_pop (cx : Cx p s m args c cc nL own Ts Z) {va : Value} (d : decode cc pc = .ok (.pop, 1)) (hva : va.category = 1) (hp : pc + 1 = pc') (k : J p l e R s m args below meth c nL Z cells slots Q al sh S pc' lv (st)) : J p l e R s m args below meth c nL Z cells slots Q al sh S pc lv (va :: st) := by
  subst hp
  exact fun H locs ls hW hS hl => lv_pop cx.1.1 cx.1.2.1 d hva (k H locs ls hW hS hl)
theorem j_dup_x1 (cx : Cx p s m args c cc nL own Ts Z) {va vb : Value} (d : decode cc pc = .ok (.dup_x1, 1)) (hva : va.category = 1) (hvb : vb.category = 1) (hp : pc + 1 = pc') (k : J p l e R s m args below meth c nL Z cells slots Q al sh S pc' lv (va :: vb :: va :: st)) : J p l e R s m args below meth c nL Z cells slots Q al sh S pc lv (va :: vb :: st) := by
  subst hp
  exact fun H locs ls hW hS hl => lv_dup_x1 cx.1.1 cx.1.2.1 d hva hvb (k H locs ls hW hS hl)
theorem j_dup2 (cx : Cx p s m args c cc nL own Ts Z) {va vb : Value} (d : decode cc pc = .ok (.dup2, 1)) (hva : va.category = 1) (hvb : vb.category = 1) (hp : pc + 1 = pc') (k : J p l e R s m args below meth c nL Z cells slots Q al sh S pc' lv (va :: vb :: va :: vb :: st)) : J p l e R s m args below meth c nL Z cells slots Q al sh S pc lv (va :: vb :: st) := by
  subst hp
  exact fun H locs ls hW hS hl => lv_dup2_11 cx.1.1 cx.1.2.1 d hva hvb (k H locs ls hW hS hl)
theorem j_if_eq (cx : Cx p s m args c cc nL own Ts Z) {x : Int32} {off : Int} {tgt : Nat} (d : decode cc pc = .ok (.ifCond .eq off, 3)) (ht : (pc : Int) + off = (tgt : Int)) (hp : pc + 3 = pc') (kt : x = 0 → J p l e R s m args below meth c nL Z cells slots Q al sh S tgt lv st) (kf : ¬ x = 0 → J p l e R s m args below meth c nL Z cells slots Q al sh S pc' lv st) : J p l e R s m args below meth c nL Z cells slots Q al sh S pc lv (.int x :: st) := by
  subst hp
  exact fun H locs ls hW hS hl => lv_if_eq cx.1.1 cx.1.2.1 d ht (fun h => kt h H locs ls hW hS hl) (fun h => kf h H locs ls hW hS hl)
theorem j_icmp_eq (cx : Cx p s m args c cc nL own Ts Z) {x y : Int32} {off : Int} {tgt : Nat} (d : decode cc pc = .ok (.if_icmp .eq off, 3)) (ht : (pc : Int) + off = (tgt : Int)) (hp : pc + 3 = pc') (kt : x = y → J p l e R s m args below meth c nL Z cells slots Q al sh S tgt lv st) (kf : ¬ x = y → J p l e R s m args below meth c nL Z cells slots Q al sh S pc' lv st) : J p l e R s m args below meth c nL Z cells slots Q al sh S pc lv (.int y :: .int x :: st) := by
  subst hp
  exact fun H locs ls hW hS hl => lv_icmp_eq cx.1.1 cx.1.2.1 d ht (fun h => kt h H locs ls hW hS hl) (fun h => kf h H locs ls hW hS hl)
theorem j_if_ne (cx : Cx p s m args c cc nL own Ts Z) {x : Int32} {off : Int} {tgt : Nat} (d : decode cc pc = .ok (.ifCond .ne off, 3)) (ht : (pc : Int) + off = (tgt : Int)) (hp : pc + 3 = pc') (kt : ¬ x = 0 → J p l e R s m args below meth c nL Z cells slots Q al sh S tgt lv st) (kf : x = 0 → J p l e R s m args below meth c nL Z cells slots Q al sh S pc' lv st) : J p l e R s m args below meth c nL Z cells slots Q al sh S pc lv (.int x :: st) := by
  subst hp
  exact fun H locs ls hW hS hl => lv_if_ne cx.1.1 cx.1.2.1 d ht (fun h => kt h H locs ls hW hS hl) (fun h => kf h H locs ls hW hS hl)
theorem j_icmp_ne (cx : Cx p s m args c cc nL own Ts Z) {x y : Int32} {off : Int} {tgt : Nat} (d : decode cc pc = .ok (.if_icmp .ne off, 3)) (ht : (pc : Int) + off = (tgt : Int)) (hp : pc + 3 = pc') (kt : ¬ x = y → J p l e R s m args below meth c nL Z cells slots Q al sh S tgt lv st) (kf : x = y → J p l e R s m args below meth c nL Z cells slots Q al sh S pc' lv st) : J p l e R s m args below meth c nL Z cells slots Q al sh S pc lv (.int y :: .int x :: st) := by
  subst hp
  exact fun H locs ls hW hS hl => lv_icmp_ne cx.1.1 cx.1.2.1 d ht (fun h => kt h H locs ls hW hS hl) (fun h => kf h H locs ls hW hS hl)
theorem j_if_lt (cx : Cx p s m args c cc nL own Ts Z) {x : Int32} {off : Int} {tgt : Nat} (d : decode cc pc = .ok (.ifCond .lt off, 3)) (ht : (pc : Int) + off = (tgt : Int)) (hp : pc + 3 = pc') (kt : x < 0 → J p l e R s m args below meth c nL Z cells slots Q al sh S tgt lv st) (kf : ¬ x < 0 → J p l e R s m args below meth c nL Z cells slots Q al sh S pc' lv st) : J p l e R s m args below meth c nL Z cells slots Q al sh S pc lv (.int x :: st) := by
  subst hp
  exact fun H locs ls hW hS hl => lv_if_lt cx.1.1 cx.1.2.1 d ht (fun h => kt h H locs ls hW hS hl) (fun h => kf h H locs ls hW hS hl)
theorem j_icmp_lt (cx : Cx p s m args c cc nL own Ts Z) {x y : Int32} {off : Int} {tgt : Nat} (d : decode cc pc = .ok (.if_icmp .lt off, 3)) (ht : (pc : Int) + off = (tgt : Int)) (hp : pc + 3 = pc') (kt : x < y → J p l e R s m args below meth c nL Z cells slots Q al sh S tgt lv st) (kf : ¬ x < y → J p l e R s m args below meth c nL Z cells slots Q al sh S pc' lv st) : J p l e R s m args below meth c nL Z cells slots Q al sh S pc lv (.int y :: .int x :: st) := by
  subst hp
  exact fun H locs ls hW hS hl => lv_icmp_lt cx.1.1 cx.1.2.1 d ht (fun h => kt h H locs ls hW hS hl) (fun h => kf h H locs ls hW hS hl)
theorem j_if_ge (cx : Cx p s m args c cc nL own Ts Z) {x : Int32} {off : Int} {tgt : Nat} (d : decode cc pc = .ok (.ifCond .ge off, 3)) (ht : (pc : Int) + off = (tgt : Int)) (hp : pc + 3 = pc') (kt : 0 ≤ x → J p l e R s m args below meth c nL Z cells slots Q al sh S tgt lv st) (kf : ¬ 0 ≤ x → J p l e R s m args below meth c nL Z cells slots Q al sh S pc' lv st) : J p l e R s m args below meth c nL Z cells slots Q al sh S pc lv (.int x :: st) := by
  subst hp
  exact fun H locs ls hW hS hl => lv_if_ge cx.1.1 cx.1.2.1 d ht (fun h => kt h H locs ls hW hS hl) (fun h => kf h H locs ls hW hS hl)
theorem j_icmp_ge (cx : Cx p s m args c cc nL own Ts Z) {x y : Int32} {off : Int} {tgt : Nat} (d : decode cc pc = .ok (.if_icmp .ge off, 3)) (ht : (pc : Int) + off = (tgt : Int)) (hp : pc + 3 = pc') (kt : y ≤ x → J p l e R s m args below meth c nL Z cells slots Q al sh S tgt lv st) (kf : ¬ y ≤ x → J p l e R s m args below meth c nL Z cells slots Q al sh S pc' lv st) : J p l e R s m args below meth c nL Z cells slots Q al sh S pc lv (.int y :: .int x :: st) := by
  subst hp
  exact fun H locs ls hW hS hl => lv_icmp_ge cx.1.1 cx.1.2.1 d ht (fun h => kt h H locs ls hW hS hl) (fun h => kf h H locs ls hW hS hl)
theorem j_if_gt (cx : Cx p s m args c cc nL own Ts Z) {x : Int32} {off : Int} {tgt : Nat} (d : decode cc pc = .ok (.ifCond .gt off, 3)) (ht : (pc : Int) + off = (tgt : Int)) (hp : pc + 3 = pc') (kt : 0 < x → J p l e R s m args below meth c nL Z cells slots Q al sh S tgt lv st) (kf : ¬ 0 < x → J p l e R s m args below meth c nL Z cells slots Q al sh S pc' lv st) : J p l e R s m args below meth c nL Z cells slots Q al sh S pc lv (.int x :: st) := by
  subst hp
  exact fun H locs ls hW hS hl => lv_if_gt cx.1.1 cx.1.2.1 d ht (fun h => kt h H locs ls hW hS hl) (fun h => kf h H locs ls hW hS hl)
theorem j_icmp_gt (cx : Cx p s m args c cc nL own Ts Z) {x y : Int32} {off : Int} {tgt : Nat} (d : decode cc pc = .ok (.if_icmp .gt off, 3)) (ht : (pc : Int) + off = (tgt : Int)) (hp : pc + 3 = pc') (kt : y < x → J p l e R s m args below meth c nL Z cells slots Q al sh S tgt lv st) (kf : ¬ y < x → J p l e R s m args below meth c nL Z cells slots Q al sh S pc' lv st) : J p l e R s m args below meth c nL Z cells slots Q al sh S pc lv (.int y :: .int x :: st) := by
  subst hp
  exact fun H locs ls hW hS hl => lv_icmp_gt cx.1.1 cx.1.2.1 d ht (fun h => kt h H locs ls hW hS hl) (fun h => kf h H locs ls hW hS hl)
theorem j_if_le (cx : Cx p s m args c cc nL own Ts Z) {x : Int32} {off : Int} {tgt : Nat} (d : decode cc pc = .ok (.ifCond .le off, 3)) (ht : (pc : Int) + off = (tgt : Int)) (hp : pc + 3 = pc') (kt : x ≤ 0 → J p l e R s m args below meth c nL Z cells slots Q al sh S tgt lv st) (kf : ¬ x ≤ 0 → J p l e R s m args below meth c nL Z cells slots Q al sh S pc' lv st) : J p l e R s m args below meth c nL Z cells slots Q al sh S pc lv (.int x :: st) := by
  subst hp
  exact fun H locs ls hW hS hl => lv_if_le cx.1.1 cx.1.2.1 d ht (fun h => kt h H locs ls hW hS hl) (fun h => kf h H locs ls hW hS hl)
theorem j_icmp_le (cx : Cx p s m args c cc nL own Ts Z) {x y : Int32} {off : Int} {tgt : Nat} (d : decode cc pc = .ok (.if_icmp .le off, 3)) (ht : (pc : Int) + off = (tgt : Int)) (hp : pc + 3 = pc') (kt : x ≤ y → J p l e R s m args below meth c nL Z cells slots Q al sh S tgt lv st) (kf : ¬ x ≤ y → J p l e R s m args below meth c nL Z cells slots Q al sh S pc' lv st) : J p l e R s m args below meth c nL Z cells slots Q al sh S pc lv (.int y :: .int x :: st) := by
  subst hp
  exact fun H locs ls hW hS hl => lv_icmp_le cx.1.1 cx.1.2.1 d ht (fun h => kt h H locs ls hW hS hl) (fun h => kf h H locs ls hW hS hl)
theorem j_goto (cx : Cx p s m args c cc nL own Ts Z) {off : Int} {tgt : Nat} (d : decode cc pc = .ok (.goto off, 3)) (ht : (pc : Int) + off = (tgt : Int)) (k : J p l e R s m args below meth c nL Z cells slots Q al sh S tgt lv st) : J p l e R s m args below meth c nL Z cells slots Q al sh S pc lv st := fun H locs ls hW hS hl => lv_goto cx.1.1 cx.1.2.1 d ht (k H locs ls hW hS hl)
theorem j_lcmp (cx : Cx p s m args c cc nL own Ts Z) {x y : Int64} (d : decode cc pc = .ok (.lcmp, 1)) (hp : pc + 1 = pc') (k : J p l e R s m args below meth c nL Z cells slots Q al sh S pc' lv (.int (lg_cmp x y) :: st)) : J p l e R s m args below meth c nL Z cells slots Q al sh S pc lv (.long y :: .long x :: st) := by
  subst hp
  exact fun H locs ls hW hS hl => W.lcmp cx.1.1 cx.1.2.1 d (k H locs ls hW hS hl)
theorem j_get (cx : Cx p s m args c cc nL own Ts Z) {a b ci fk idx : Nat} {tg : yTg} {C : String} {T : u_T} {N : Nat} (hs : sh a b = some (.inl (ci, tg))) (hc : vwCl[ci]? = some (C, T, N)) (hin : ∀ w ∈ u_ws C T N, w ∈ Ts) {ref : String} (hfk : fk < N) (hlink : Cond.fieldLink own idx ref (T fk).2.1 (T fk).2.2.1 ∈ Ts) (hsame : ∀ x, s.fieldFound? (T fk).1 (T fk).2.1 (T fk).2.2.1 = some x → s.fieldFound? ref (T fk).2.1 (T fk).2.2.1 = some x) {v : Value} (hv : yV al S a b tg fk = v) {q : Nat} (hq : q = al a b) (d : decode cc pc = .ok (.getfield idx, 3)) (hp : pc + 3 = pc') (k : J p l e R s m args below meth c nL Z cells slots Q al sh S pc' lv (v :: st)) : J p l e R s m args below meth c nL Z cells slots Q al sh S pc lv (.ref q :: st) := by
  subst hp hq hv
  intro H locs ls hW hS hl
  obtain ⟨r, h1, cell, q1, q2, q3, q4⟩ := (hW.2.1 a b _ hs).2
  have hr : r = (C, T, N) := Option.some.inj (h1.symm.trans hc)
  subst hr
  obtain ⟨hSl, hfc, kC, hkC, hkind⟩ := cx.2.1.1 ci _ hc
  obtain ⟨cf, kf, fi, f, hi, hsl⟩ := hSl fk hfk
  refine W.getf cx.1.1 cx.1.2.1 cx.1.2.2.2.1 (cx.1.2.2.2.2 _ hlink) (hsame _ hi) (u_facts hfc hkC (u_lays cx.1.2.2.2.2 hin hfk) hi).1 q1 (by rw [q3]; exact fun h => by cases h) (v := yV al S a b tg fk) ?_ rfl rfl d (k H locs ls hW hS hl)
  rw [hsl, q4 fk hfk]
theorem yAt_seti {G : va_G} {a b ci fk : Nat} {tg : yTg} {C : String} {T : u_T} {N : Nat} {H' : Heap} {x : Int32} {cell : Cell} (hc : vwCl[ci]? = some (C, T, N)) (htg : tg fk = none) (q2 : cell.cls = G.1 ci) (q3 : cell.vm = .none) (q4 : ∀ k, k < N → cell.slots[G.2 ci k]? = some (yV al S a b tg k)) (hap : ∀ a b, a < N → b < N → a ≠ b → G.2 ci a ≠ G.2 ci b) (hfk : fk < N) (e1 : H'[al a b]? = some (cell.setSlot (G.2 ci fk) (.int x))) : yAt G al (sup S a b fk x) a b (.inl (ci, tg)) H' := by
  refine ⟨_, hc, t_OB.to (V := updV (yV al S a b tg) fk (.int x)) ⟨_, e1, q2, q3, t_set q4 hap hfk _⟩ (fun j _ => ?_)⟩
  by_cases e : j = fk
  · subst e
    rw [yV_i htg, sup_self]
    simp [updV]
  · have e2 : updV (yV al S a b tg) fk (.int x) j = yV al S a b tg j := by simp [updV, e]
    rw [e2]
    show yV al S a b tg j = yV al (sup S a b fk x) a b tg j
    cases hj : tg j with
    | none => rw [yV_i hj, yV_i hj, sup_ne _ _ (fun z => e z.2.2)]
    | some r => unfold yV; rw [hj]
theorem yAt_setr {G : va_G} {a b ci fk : Nat} {tg : yTg} {C : String} {T : u_T} {N : Nat} {H' : Heap} {kk : Nat × Nat} {cell : Cell} (hc : vwCl[ci]? = some (C, T, N)) (q2 : cell.cls = G.1 ci) (q3 : cell.vm = .none) (q4 : ∀ k, k < N → cell.slots[G.2 ci k]? = some (yV al S a b tg k)) (hap : ∀ a b, a < N → b < N → a ≠ b → G.2 ci a ≠ G.2 ci b) (hfk : fk < N) (e1 : H'[al a b]? = some (cell.setSlot (G.2 ci fk) (.ref (al kk.1 kk.2)))) : yAt G al S a b (.inl (ci, tgp tg fk (some kk))) H' := by
  refine ⟨_, hc, t_OB.to (V := updV (yV al S a b tg) fk (.ref (al kk.1 kk.2))) ⟨_, e1, q2, q3, t_set q4 hap hfk _⟩ (fun j _ => ?_)⟩
  by_cases e : j = fk
  · subst e
    rw [yV_r (show tgp tg j (some kk) j = some (some kk) by simp [tgp])]
    simp [updV]
  · have e2 : updV (yV al S a b tg) fk (.ref (al kk.1 kk.2)) j = yV al S a b tg j := by simp [updV, e]
    rw [e2]
    show yV al S a b tg j = yV al S a b (tgp tg fk (some kk)) j
    have e3 : tgp tg fk (some kk) j = tg j := by simp [tgp, e]
    unfold yV
    rw [e3]
theorem j_puti (cx : Cx p s m args c cc nL own Ts Z) {a b ci fk idx : Nat} {tg : yTg} {C : String} {T : u_T} {N : Nat} (hs : sh a b = some (.inl (ci, tg))) (hc : vwCl[ci]? = some (C, T, N)) (hin : ∀ w ∈ u_ws C T N, w ∈ Ts) {ref : String} (hfk : fk < N) (hlink : Cond.fieldLink own idx ref (T fk).2.1 (T fk).2.2.1 ∈ Ts) (hsame : ∀ x, s.fieldFound? (T fk).1 (T fk).2.1 (T fk).2.2.1 = some x → s.fieldFound? ref (T fk).2.1 (T fk).2.2.1 = some x) (ty0 : Nat → FieldType) (hty : ∀ k, k < N → parseFieldDescriptor (T k).2.2.1 = some (ty0 k)) (hnm : ∀ a, a < N → ∀ b, b < N → a ≠ b → (T a).2.1 ≠ (T b).2.1) (hfin : (T fk).2.2.2 = false) {ty : FieldType} (hd : parseFieldDescriptor (T fk).2.2.1 = some ty) {x : Int32} (htg : tg fk = none) (hnr : narrow ty (.int x) = .int x) (hfit : fits ty (.int x) = true) {q : Nat} (hq : q = al a b) (d : decode cc pc = .ok (.putfield idx, 3)) (hp : pc + 3 = pc') (k : J p l e R s m args below meth c nL Z cells slots Q al sh (sup S a b fk x) pc' lv st) : J p l e R s m args below meth c nL Z cells slots Q al sh S pc lv (.int x :: .ref q :: st) := by
  subst hp hq
  intro H locs ls hW hS hl
  obtain ⟨r, h1, cell, q1, q2, q3, q4⟩ := (hW.2.1 a b _ hs).2
  have hr : r = (C, T, N) := Option.some.inj (h1.symm.trans hc)
  subst hr
  obtain ⟨hSl, hfc, kC, hkC, hkind⟩ := cx.2.1.1 ci _ hc
  obtain ⟨cf, kf, fi, f, hi, hsl⟩ := hSl fk hfk
  have hap := va_apart (own := own) cx.1.2.2.2.2 hin ty0 hty hnm cx.2.1 hc
  have hlay := cx.1.2.2.2.2 _ (hin _ (u_in_lay hfk))
  unfold u_lay at hlay
  rw [if_neg (by rw [hfin]; decide)] at hlay
  have hst := (u_facts hfc hkC (u_lays cx.1.2.2.2.2 hin hfk) hi).1
  have h6 := u_store hfc hkC hkind hlay hi hd hnr hfit
  refine W.putK cx.1.1 cx.1.2.1 (f := f) ⟨cx.1.2.2.2.1, cx.1.2.2.2.2 _ hlink, ⟨_, _, _, hsame _ hi⟩, hst⟩ (by rw [q2]; exact h6) q1 q3 (by rw [hsl]; exact k2_hasslot (q4 fk hfk)) rfl rfl d fun H' e1 e2 e3 => ?_
  rw [hsl] at e1 ⊢
  have hn : yW Z.1 Z.2.2.1 al (shp sh a b (.inl (ci, tg))) (sup S a b fk x) H' := hW.put hs e2 e3 (fun c d j h => sup_off S x h) (yAt_seti hc htg q2 q3 q4 hap hfk e1) (fun ci' tg' j k' e hj => by cases e; exact hW.2.2.2 a b _ _ j k' hs hj)
  rw [shp_id _ hs] at hn
  exact k H' _ ls hn (hS.put e2 e3 (hW.2.1 a b _ hs).1) hl
theorem j_putr (cx : Cx p s m args c cc nL own Ts Z) {a b ci fk idx : Nat} {tg : yTg} {C : String} {T : u_T} {N : Nat} (hs : sh a b = some (.inl (ci, tg))) (hc : vwCl[ci]? = some (C, T, N)) (hin : ∀ w ∈ u_ws C T N, w ∈ Ts) {ref : String} (hfk : fk < N) (hlink : Cond.fieldLink own idx ref (T fk).2.1 (T fk).2.2.1 ∈ Ts) (hsame : ∀ x, s.fieldFound? (T fk).1 (T fk).2.1 (T fk).2.2.1 = some x → s.fieldFound? ref (T fk).2.1 (T fk).2.2.1 = some x) (ty0 : Nat → FieldType) (hty : ∀ k, k < N → parseFieldDescriptor (T k).2.2.1 = some (ty0 k)) (hnm : ∀ a, a < N → ∀ b, b < N → a ≠ b → (T a).2.1 ≠ (T b).2.1) (hfin : (T fk).2.2.2 = false) {ty : FieldType} (hd : parseFieldDescriptor (T fk).2.2.1 = some ty) {kk : Nat × Nat} {q2 : Nat} (hq2 : q2 = al kk.1 kk.2) (hkk : sh kk.1 kk.2 ≠ none ∨ kk.1 = 99) (hnr : narrow ty (.ref q2) = .ref q2) (hfit : fits ty (.ref q2) = true) {q : Nat} (hq : q = al a b) (d : decode cc pc = .ok (.putfield idx, 3)) (hp : pc + 3 = pc') (k : J p l e R s m args below meth c nL Z cells slots Q al (shp sh a b (.inl (ci, tgp tg fk (some kk)))) S pc' lv st) : J p l e R s m args below meth c nL Z cells slots Q al sh S pc lv (.ref q2 :: .ref q :: st) := by
  subst hp hq hq2
  intro H locs ls hW hS hl
  obtain ⟨r, h1, cell, q1, q2, q3, q4⟩ := (hW.2.1 a b _ hs).2
  have hr : r = (C, T, N) := Option.some.inj (h1.symm.trans hc)
  subst hr
  obtain ⟨hSl, hfc, kC, hkC, hkind⟩ := cx.2.1.1 ci _ hc
  obtain ⟨cf, kf, fi, f, hi, hsl⟩ := hSl fk hfk
  have hap := va_apart (own := own) cx.1.2.2.2.2 hin ty0 hty hnm cx.2.1 hc
  have hlay := cx.1.2.2.2.2 _ (hin _ (u_in_lay hfk))
  unfold u_lay at hlay
  rw [if_neg (by rw [hfin]; decide)] at hlay
  have hst := (u_facts hfc hkC (u_lays cx.1.2.2.2.2 hin hfk) hi).1
  have h6 := u_store hfc hkC hkind hlay hi hd hnr hfit
  refine W.putK cx.1.1 cx.1.2.1 (f := f) ⟨cx.1.2.2.2.1, cx.1.2.2.2.2 _ hlink, ⟨_, _, _, hsame _ hi⟩, hst⟩ (by rw [q2]; exact h6) q1 q3 (by rw [hsl]; exact k2_hasslot (q4 fk hfk)) rfl rfl d fun H' e1 e2 e3 => ?_
  rw [hsl] at e1 ⊢
  have hn : yW Z.1 Z.2.2.1 al (shp sh a b (.inl (ci, tgp tg fk (some kk)))) S H' := hW.put hs e2 e3 (fun c d j h => rfl) (yAt_setr hc q2 q3 q4 hap hfk e1) (fun ci' tg' j k' e hj => by
    cases e
    by_cases ej : j = fk
    · subst ej
      have e9 : tgp tg j (some kk) j = some (some kk) := by simp [tgp]
      rw [e9] at hj
      cases hj
      exact hkk
    · have e9 : tgp tg fk (some kk) j = tg j := by simp [tgp, ej]
      rw [e9] at hj
      exact hW.2.2.2 a b _ _ j k' hs hj)
  exact k H' _ ls hn (hS.put e2 e3 (hW.2.1 a b _ hs).1) hl
theorem j_putiF (cx : Cx p s m args c cc nL own Ts Z) {a b ci fk idx : Nat} {tg : yTg} {C : String} {T : u_T} {N : Nat} (hs : sh a b = some (.inl (ci, tg))) (hc : vwCl[ci]? = some (C, T, N)) (hin : ∀ w ∈ u_ws C T N, w ∈ Ts) {ref : String} (hfk : fk < N) (hlink : Cond.fieldLink own idx ref (T fk).2.1 (T fk).2.2.1 ∈ Ts) (hsame : ∀ x, s.fieldFound? (T fk).1 (T fk).2.1 (T fk).2.2.1 = some x → s.fieldFound? ref (T fk).2.1 (T fk).2.2.1 = some x) (ty0 : Nat → FieldType) (hty : ∀ k, k < N → parseFieldDescriptor (T k).2.2.1 = some (ty0 k)) (hnm : ∀ a, a < N → ∀ b, b < N → a ≠ b → (T a).2.1 ≠ (T b).2.1) (hfin : (T fk).2.2.2 = true) (hini : meth.name = "<init>") (hdecl : (T fk).1 = own) {ty : FieldType} (hd : parseFieldDescriptor (T fk).2.2.1 = some ty) {x : Int32} (htg : tg fk = none) (hnr : narrow ty (.int x) = .int x) (hfit : fits ty (.int x) = true) {q : Nat} (hq : q = al a b) (d : decode cc pc = .ok (.putfield idx, 3)) (hp : pc + 3 = pc') (k : J p l e R s m args below meth c nL Z cells slots Q al sh (sup S a b fk x) pc' lv st) : J p l e R s m args below meth c nL Z cells slots Q al sh S pc lv (.int x :: .ref q :: st) := by
  subst hp hq
  intro H locs ls hW hS hl
  obtain ⟨r, h1, cell, q1, q2, q3, q4⟩ := (hW.2.1 a b _ hs).2
  have hr : r = (C, T, N) := Option.some.inj (h1.symm.trans hc)
  subst hr
  obtain ⟨hSl, hfc, kC, hkC, hkind⟩ := cx.2.1.1 ci _ hc
  obtain ⟨cf, kf, fi, f, hi, hsl⟩ := hSl fk hfk
  have hap := va_apart (own := own) cx.1.2.2.2.2 hin ty0 hty hnm cx.2.1 hc
  have hlay := cx.1.2.2.2.2 _ (hin _ (u_in_lay hfk))
  unfold u_lay at hlay
  rw [if_pos hfin] at hlay
  have hst := (u_facts hfc hkC (u_lays cx.1.2.2.2.2 hin hfk) hi).1
  have hcf : m.cls = cf := by
    obtain ⟨_, _, c', _, _, _, -, -, hf', -, -, -, hown2, -⟩ := Cond.laysFinal_spec hlay
    have e1 : c' = cf := by have := hi.symm.trans hf'; simp at this; exact this.1.symm
    rw [hdecl] at hown2
    rw [← e1]; exact Option.some.inj (cx.1.2.2.2.1.symm.trans hown2)
  have h6 := u_fits hfc hkC hkind (Or.inr hlay) hi hd hnr hfit
  refine W.putFinK cx.1.1 cx.1.2.1 cx.1.2.2.2.1 (cx.1.2.2.2.2 _ hlink) (f := f) (hsame _ hi) hst hcf hini (by rw [q2]; exact h6) q1 q3 (by rw [hsl]; exact k2_hasslot (q4 fk hfk)) rfl rfl d fun H' e1 e2 e3 => ?_
  rw [hsl] at e1 ⊢
  have hn : yW Z.1 Z.2.2.1 al (shp sh a b (.inl (ci, tg))) (sup S a b fk x) H' := hW.put hs e2 e3 (fun c d j h => sup_off S x h) (yAt_seti hc htg q2 q3 q4 hap hfk e1) (fun ci' tg' j k' e hj => by cases e; exact hW.2.2.2 a b _ _ j k' hs hj)
  rw [shp_id _ hs] at hn
  exact k H' _ ls hn (hS.put e2 e3 (hW.2.1 a b _ hs).1) hl
theorem j_putrF (cx : Cx p s m args c cc nL own Ts Z) {a b ci fk idx : Nat} {tg : yTg} {C : String} {T : u_T} {N : Nat} (hs : sh a b = some (.inl (ci, tg))) (hc : vwCl[ci]? = some (C, T, N)) (hin : ∀ w ∈ u_ws C T N, w ∈ Ts) {ref : String} (hfk : fk < N) (hlink : Cond.fieldLink own idx ref (T fk).2.1 (T fk).2.2.1 ∈ Ts) (hsame : ∀ x, s.fieldFound? (T fk).1 (T fk).2.1 (T fk).2.2.1 = some x → s.fieldFound? ref (T fk).2.1 (T fk).2.2.1 = some x) (ty0 : Nat → FieldType) (hty : ∀ k, k < N → parseFieldDescriptor (T k).2.2.1 = some (ty0 k)) (hnm : ∀ a, a < N → ∀ b, b < N → a ≠ b → (T a).2.1 ≠ (T b).2.1) (hfin : (T fk).2.2.2 = true) (hini : meth.name = "<init>") (hdecl : (T fk).1 = own) {ty : FieldType} (hd : parseFieldDescriptor (T fk).2.2.1 = some ty) {kk : Nat × Nat} {q2 : Nat} (hq2 : q2 = al kk.1 kk.2) (hkk : sh kk.1 kk.2 ≠ none ∨ kk.1 = 99) (hnr : narrow ty (.ref q2) = .ref q2) (hfit : fits ty (.ref q2) = true) {q : Nat} (hq : q = al a b) (d : decode cc pc = .ok (.putfield idx, 3)) (hp : pc + 3 = pc') (k : J p l e R s m args below meth c nL Z cells slots Q al (shp sh a b (.inl (ci, tgp tg fk (some kk)))) S pc' lv st) : J p l e R s m args below meth c nL Z cells slots Q al sh S pc lv (.ref q2 :: .ref q :: st) := by
  subst hp hq hq2
  intro H locs ls hW hS hl
  obtain ⟨r, h1, cell, q1, q2, q3, q4⟩ := (hW.2.1 a b _ hs).2
  have hr : r = (C, T, N) := Option.some.inj (h1.symm.trans hc)
  subst hr
  obtain ⟨hSl, hfc, kC, hkC, hkind⟩ := cx.2.1.1 ci _ hc
  obtain ⟨cf, kf, fi, f, hi, hsl⟩ := hSl fk hfk
  have hap := va_apart (own := own) cx.1.2.2.2.2 hin ty0 hty hnm cx.2.1 hc
  have hlay := cx.1.2.2.2.2 _ (hin _ (u_in_lay hfk))
  unfold u_lay at hlay
  rw [if_pos hfin] at hlay
  have hst := (u_facts hfc hkC (u_lays cx.1.2.2.2.2 hin hfk) hi).1
  have hcf : m.cls = cf := by
    obtain ⟨_, _, c', _, _, _, -, -, hf', -, -, -, hown2, -⟩ := Cond.laysFinal_spec hlay
    have e1 : c' = cf := by have := hi.symm.trans hf'; simp at this; exact this.1.symm
    rw [hdecl] at hown2
    rw [← e1]; exact Option.some.inj (cx.1.2.2.2.1.symm.trans hown2)
  have h6 := u_fits hfc hkC hkind (Or.inr hlay) hi hd hnr hfit
  refine W.putFinK cx.1.1 cx.1.2.1 cx.1.2.2.2.1 (cx.1.2.2.2.2 _ hlink) (f := f) (hsame _ hi) hst hcf hini (by rw [q2]; exact h6) q1 q3 (by rw [hsl]; exact k2_hasslot (q4 fk hfk)) rfl rfl d fun H' e1 e2 e3 => ?_
  rw [hsl] at e1 ⊢
  have hn : yW Z.1 Z.2.2.1 al (shp sh a b (.inl (ci, tgp tg fk (some kk)))) S H' := hW.put hs e2 e3 (fun c d j h => rfl) (yAt_setr hc q2 q3 q4 hap hfk e1) (fun ci' tg' j k' e hj => by
    cases e
    by_cases ej : j = fk
    · subst ej
      have e9 : tgp tg j (some kk) j = some (some kk) := by simp [tgp]
      rw [e9] at hj
      cases hj
      exact hkk
    · have e9 : tgp tg fk (some kk) j = tg j := by simp [tgp, ej]
      rw [e9] at hj
      exact hW.2.2.2 a b _ _ j k' hs hj)
  exact k H' _ ls hn (hS.put e2 e3 (hW.2.1 a b _ hs).1) hl
theorem j_iald (cx : Cx p s m args c cc nL own Ts Z) {a b n : Nat} {cA : ClassId} (hs : sh a b = some (.inr (.inl (cA, n)))) (hcA : cA = Z.2.1 0) {i : Int32} (hi : vp_in i n) {v : Int32} (hv : S a b i.toNatClampNeg = v) {q : Nat} (hq : q = al a b) (d : decode cc pc = .ok (.iaload, 1)) (hp : pc + 1 = pc') (k : J p l e R s m args below meth c nL Z cells slots Q al sh S pc' lv (.int v :: st)) : J p l e R s m args below meth c nL Z cells slots Q al sh S pc lv (.int i :: .ref q :: st) := by
  subst hp hq hv
  intro H locs ls hW hS hl
  have hlt : i.toNatClampNeg < n := Nat.not_le.mp fun q => hi (Or.inr q)
  have hcell : H[al a b]? = some (vp_cell cA (n, .inl (S a b))) := (hW.2.1 a b _ hs).2
  have hT := (cx.2.1.2 0 (Z.2.1 0, .int) rfl).1
  rw [← hcA] at hT
  exact W.iald (v := .int (S a b i.toNatClampNeg)) cx.1.1 cx.1.2.1 hcell (hT n (fun j => .int (S a b j))) (fun q => by cases q) (by show ¬ (i < 0 ∨ (arrV _ _ _).slots.size ≤ _); rw [arrV_size]; exact hi) (by show (arrV _ _ _).slots[_]? = _; rw [arrV_read _ _ hlt]) rfl rfl d (k H locs ls hW hS hl)
theorem j_cald (cx : Cx p s m args c cc nL own Ts Z) {a b n : Nat} {cA : ClassId} (hs : sh a b = some (.inr (.inl (cA, n)))) (hcA : cA = Z.2.1 1) {i : Int32} (hi : vp_in i n) {v : Int32} (hv : S a b i.toNatClampNeg = v) {q : Nat} (hq : q = al a b) (d : decode cc pc = .ok (.caload, 1)) (hp : pc + 1 = pc') (k : J p l e R s m args below meth c nL Z cells slots Q al sh S pc' lv (.int v :: st)) : J p l e R s m args below meth c nL Z cells slots Q al sh S pc lv (.int i :: .ref q :: st) := by
  subst hp hq hv
  intro H locs ls hW hS hl
  have hlt : i.toNatClampNeg < n := Nat.not_le.mp fun q => hi (Or.inr q)
  have hcell : H[al a b]? = some (vp_cell cA (n, .inl (S a b))) := (hW.2.1 a b _ hs).2
  have hT := (cx.2.1.2 1 (Z.2.1 1, .char) rfl).1
  rw [← hcA] at hT
  exact W.cald (v := .int (S a b i.toNatClampNeg)) cx.1.1 cx.1.2.1 hcell (hT n (fun j => .int (S a b j))) (fun q => by cases q) (by show ¬ (i < 0 ∨ (arrV _ _ _).slots.size ≤ _); rw [arrV_size]; exact hi) (by show (arrV _ _ _).slots[_]? = _; rw [arrV_read _ _ hlt]) rfl rfl d (k H locs ls hW hS hl)
theorem j_iast (cx : Cx p s m args c cc nL own Ts Z) {a b n : Nat} {cA : ClassId} (hs : sh a b = some (.inr (.inl (cA, n)))) (hcA : cA = Z.2.1 0) {i x : Int32} (hi : vp_in i n) {jn : Nat} (hj : i.toNatClampNeg = jn) {q : Nat} (hq : q = al a b) (d : decode cc pc = .ok (.iastore, 1)) (hp : pc + 1 = pc') (k : J p l e R s m args below meth c nL Z cells slots Q al sh (sup S a b jn x) pc' lv st) : J p l e R s m args below meth c nL Z cells slots Q al sh S pc lv (.int x :: .int i :: .ref q :: st) := by
  subst hp hq hj
  intro H locs ls hW hS hl
  have hcell : H[al a b]? = some (vp_cell cA (n, .inl (S a b))) := (hW.2.1 a b _ hs).2
  have hT := (cx.2.1.2 0 (Z.2.1 0, .int) rfl).1
  rw [← hcA] at hT
  refine W.iast cx.1.1 cx.1.2.1 hcell (hT n (fun j => .int (S a b j))) (fun q => by cases q) (by show ¬ (i < 0 ∨ (arrV _ _ _).slots.size ≤ _); rw [arrV_size]; exact hi) rfl rfl d fun H1 e z oq => ?_
  have hat : yAt Z.1 al (sup S a b i.toNatClampNeg x) a b (.inr (.inl (cA, n))) H1 := by
    show H1[al a b]? = some (vp_cell _ (_, .inl _))
    rw [e]
    rw [vp_cell_i, vp_cell_i, arrV_store]
    congr 2
    funext q
    by_cases hq : q = i.toNatClampNeg
    · subst hq
      simp [updV, sup]
    · simp [updV, sup, hq]
  have hn : yW Z.1 Z.2.2.1 al (shp sh a b (.inr (.inl (cA, n)))) (sup S a b i.toNatClampNeg x) H1 := hW.put hs z oq (fun c d j h => sup_off S x h) hat (fun _ _ _ _ e => by cases e)
  rw [shp_id _ hs] at hn
  exact k H1 _ ls hn (hS.put z oq (hW.2.1 a b _ hs).1) hl
theorem j_cast (cx : Cx p s m args c cc nL own Ts Z) {a b n : Nat} {cA : ClassId} (hs : sh a b = some (.inr (.inl (cA, n)))) (hcA : cA = Z.2.1 1) {i x : Int32} (hi : vp_in i n) (hx : narrow .char (.int x) = .int x) {jn : Nat} (hj : i.toNatClampNeg = jn) {q : Nat} (hq : q = al a b) (d : decode cc pc = .ok (.castore, 1)) (hp : pc + 1 = pc') (k : J p l e R s m args below meth c nL Z cells slots Q al sh (sup S a b jn x) pc' lv st) : J p l e R s m args below meth c nL Z cells slots Q al sh S pc lv (.int x :: .int i :: .ref q :: st) := by
  subst hp hq hj
  intro H locs ls hW hS hl
  have hcell : H[al a b]? = some (vp_cell cA (n, .inl (S a b))) := (hW.2.1 a b _ hs).2
  have hT := (cx.2.1.2 1 (Z.2.1 1, .char) rfl).1
  rw [← hcA] at hT
  refine W.cast cx.1.1 cx.1.2.1 hcell (hT n (fun j => .int (S a b j))) (fun q => by cases q) (by show ¬ (i < 0 ∨ (arrV _ _ _).slots.size ≤ _); rw [arrV_size]; exact hi) rfl rfl d fun H1 e z oq => ?_
  have hat : yAt Z.1 al (sup S a b i.toNatClampNeg x) a b (.inr (.inl (cA, n))) H1 := by
    show H1[al a b]? = some (vp_cell _ (_, .inl _))
    rw [e]
    rw [vp_cell_i, vp_cell_i, arrV_store]
    congr 2
    funext q
    by_cases hq : q = i.toNatClampNeg
    · subst hq
      simp only [updV, sup, and_self, if_true]; exact hx
    · simp [updV, sup, hq]
  have hn : yW Z.1 Z.2.2.1 al (shp sh a b (.inr (.inl (cA, n)))) (sup S a b i.toNatClampNeg x) H1 := hW.put hs z oq (fun c d j h => sup_off S x h) hat (fun _ _ _ _ e => by cases e)
  rw [shp_id _ hs] at hn
  exact k H1 _ ls hn (hS.put z oq (hW.2.1 a b _ hs).1) hl
theorem j_aald (cx : Cx p s m args c cc nL own Ts Z) {a b n : Nat} {cA : ClassId} {f : Nat → Option Nat} {ti : Nat} {ty : FieldType} (hs : sh a b = some (.inr (.inr (cA, (n, .inr (.inr (.inr (.inr f)))))))) (hti : (yT Z.2.1)[ti]? = some (cA, ty)) (hty : ty.isReference = true) {i : Int32} (hi : vp_in i n) {r : Nat} (hr : f i.toNatClampNeg = some r) {q : Nat} (hq : q = al a b) (d : decode cc pc = .ok (.aaload, 1)) (hp : pc + 1 = pc') (k : J p l e R s m args below meth c nL Z cells slots Q al sh S pc' lv (.ref r :: st)) : J p l e R s m args below meth c nL Z cells slots Q al sh S pc lv (.int i :: .ref q :: st) := by
  subst hp hq
  intro H locs ls hW hS hl
  have hlt : i.toNatClampNeg < n := Nat.not_le.mp fun q => hi (Or.inr q)
  have hcell : H[al a b]? = some (vp_cell cA (n, .inr (.inr (.inr (.inr f))))) := (hW.2.1 a b _ hs).2
  exact W.aald (v := .ref r) (ty := ty) cx.1.1 cx.1.2.1 hcell ((cx.2.1.2 ti _ hti).1 n (fun j => va_rf (f j))) hty (fun q => by cases q) (by show ¬ (i < 0 ∨ (arrV _ _ _).slots.size ≤ _); rw [arrV_size]; exact hi) (by show (arrV _ _ _).slots[_]? = _; rw [arrV_read _ _ hlt, hr]; rfl) rfl rfl d (k H locs ls hW hS hl)
theorem j_alen (cx : Cx p s m args c cc nL own Ts Z) {a b : Nat} {cA : ClassId} {n : Nat} {f : Nat → Option Nat} {ti : Nat} {ty : FieldType} (hs : sh a b = some (.inr (.inr (cA, (n, .inr (.inr (.inr (.inr f)))))))) (hti : (yT Z.2.1)[ti]? = some (cA, ty)) {q : Nat} (hq : q = al a b) (d : decode cc pc = .ok (.arraylength, 1)) (hp : pc + 1 = pc') (k : J p l e R s m args below meth c nL Z cells slots Q al sh S pc' lv (.int (nI n) :: st)) : J p l e R s m args below meth c nL Z cells slots Q al sh S pc lv (.ref q :: st) := by
  subst hp hq
  intro H locs ls hW hS hl
  have hcell : H[al a b]? = some (vp_cell cA (n, .inr (.inr (.inr (.inr f))))) := (hW.2.1 a b _ hs).2
  exact W.alen (n := nI n) cx.1.1 cx.1.2.1 hcell ((cx.2.1.2 ti _ hti).1 n (fun j => va_rf (f j))) (by rw [vp_cell_q, arrV_size] <;> rfl) rfl rfl d (k H locs ls hW hS hl)
/-- checkcast of an object of the world to its own class -/
theorem j_castS (cx : Cx p s m args c cc nL own Ts Z) {a b ci idx : Nat} {tg : yTg} {C : String} {T : u_T} {N : Nat} (hs : sh a b = some (.inl (ci, tg))) (hc : vwCl[ci]? = some (C, T, N)) (hlink : Cond.classLink own idx C ∈ Ts) {q : Nat} (hq : q = al a b) (d : decode cc pc = .ok (.checkcast idx, 3)) (hp : pc + 3 = pc') (k : J p l e R s m args below meth c nL Z cells slots Q al sh S pc' lv (.ref q :: st)) : J p l e R s m args below meth c nL Z cells slots Q al sh S pc lv (.ref q :: st) := by
  subst hp hq
  exact fun H locs ls hW hS hl => va_castS cx.1.1 cx.1.2.1 cx.1.2.2.2.1 (cx.1.2.2.2.2 _ hlink) (cx.2.1.1 ci _ hc).2 (hW.recv cx hs hc) d (k H locs ls hW hS hl)
theorem j_objInit (cx : Cx p s m args c cc nL own Ts Z) {idx : Nat} (hlink : Cond.methodLink own idx Lib.objectInit ∈ Ts) (hin : Cond.instanceMethod Lib.objectInit ∈ Ts) (hcode : Cond.code Lib.objectInit ⟨#[0xb1]⟩ 1 none ∈ Ts) {q : Nat} (d : decode cc pc = .ok (.invokespecial idx, 3)) (hfr : 1 ≤ R.frames) (hlo : (st.map fun v => v.category).sum + 12 ≤ R.locals) (hp : pc + 3 = pc') (k : J p l e R s m args below meth c nL Z cells slots Q al sh S pc' lv st) : J p l e R s m args below meth c nL Z cells slots Q al sh S pc lv (.ref q :: st) := by
  subst hp
  exact fun H locs ls hW hS hl => W.objInit cx.1.1 cx.1.2.1 cx.1.2.2.2.1 (cx.1.2.2.2.2 _ hlink) (cx.1.2.2.2.2 _ hin) (cx.1.2.2.2.2 _ hcode) rfl (by rw [cx.1.2.2.1]; exact hl.1) rfl d hfr (by show 2 * 0 + _ + _ ≤ _; omega) (k H locs ls hW hS hl)
/-- a new object: its address q at a key that was free -/
theorem j_new (cx : Cx p s m args c cc nL own Ts Z) {ci idx : Nat} {C : String} {T : u_T} {N : Nat} (a b : Nat) (hs : sh a b = none) (ha : a ≠ 99) (hc : vwCl[ci]? = some (C, T, N)) (hin : ∀ w ∈ u_ws C T N, w ∈ Ts) (ty0 : Nat → FieldType) (hty : ∀ k, k < N → parseFieldDescriptor (T k).2.2.1 = some (ty0 k)) (hcl : Cond.classLink own idx C ∈ Ts) (hinst : Cond.instantiable C N ∈ Ts) (hini : Cond.initialized C ∈ Ts) {tg : yTg} (htg : ∀ j, j < N → tg j = (if (ty0 j).isReference then some none else none)) (htn : ∀ j k, tg j ≠ some (some k)) (hdf : ∀ j, j < N → defaultValue (ty0 j) = if (ty0 j).isReference then .null else .int 0)
    (hcells : cells + 1 ≤ R.cells) (hslots : slots + N ≤ R.slots) (d : decode cc pc = .ok (.new idx, 3)) (hp : pc + 3 = pc') (k : ∀ q : Nat, J p l e R s m args below meth c nL Z (cells + 1) (slots + N) Q (alp al a b q) (shp sh a b (.inl (ci, tg))) (szero S a b) pc' lv (.ref q :: st)) : J p l e R s m args below meth c nL Z cells slots Q al sh S pc lv st := by
  subst hp
  intro H locs ls hW hS hl
  have hKn := cx.2.1.1 ci _ hc
  refine W.newcK cx.1.1 cx.1.2.1 cx.1.2.2.2.1 (cx.1.2.2.2.2 _ hcl) (cx.1.2.2.2.2 _ hinst) (cx.1.2.2.2.2 _ hini) rfl d hcells hslots hKn.2.1 rfl fun H1 kC hkC e1 z1 o1 => ?_
  have hn : yAt Z.1 (alp al a b H.size) (szero S a b) a b (.inl (ci, tg)) H1 := by
    refine ⟨_, hc, ?_⟩
    rw [alp_self]
    refine (u_born ty0 cx.1.2.2.2.2 hin hKn hkC e1 hty).to (fun j hj => ?_)
    show defaultValue (ty0 j) = yV (alp al a b H.size) (szero S a b) a b tg j
    rw [hdf j hj]
    by_cases e : (ty0 j).isReference = true
    · rw [if_pos e, yV_n (by rw [htg j hj, if_pos e])]
    · rw [if_neg e, yV_i (by rw [htg j hj, if_neg e])]
      simp [szero]
  exact k H.size H1 locs ls (hW.new hs ha z1 o1 (fun c d j h => by simp only [szero, if_neg h]) hn (fun ci' tg' j k' e => by cases e; exact htn j k')) ⟨Nat.le_trans hS.1 (by omega), fun x h1 h2 => (o1 x (Nat.lt_of_lt_of_le h1 hS.1)).trans (hS.2.1 x h1 h2), hS.2.2⟩ hl
theorem j_newi (cx : Cx p s m args c cc nL own Ts Z) (a b : Nat) (hs : sh a b = none) (ha : a ≠ 99) (harr : Cond.arrayClass (newarray.typeOf .int) ∈ Ts) {n : Int32} {N : Nat} (hn : ¬ n < 0) (hN : n.toNatClampNeg = N) (hb : N ≤ 10000) (hcells : cells + 1 ≤ R.cells) (hslots : slots + N ≤ R.slots) (d : decode cc pc = .ok (.newarray .int, 2)) (hp : pc + 2 = pc') (k : ∀ q : Nat, J p l e R s m args below meth c nL Z (cells + 1) (slots + N) Q (alp al a b q) (shp sh a b (.inr (.inl (Z.2.1 0, N)))) (szero S a b) pc' lv (.ref q :: st)) : J p l e R s m args below meth c nL Z cells slots Q al sh S pc lv (.int n :: st) := by
  subst hp
  intro H locs ls hW hS hl
  refine va_newaK cx.1.1 cx.1.2.1 (cx.1.2.2.2.2 _ harr) rfl d rfl hn hN (by show N * _ ≤ _; have h9 : componentBytes (newarray.typeOf .int) ≤ 8 := by decide
                                                                            exact Nat.le_trans (Nat.mul_le_mul hb h9) (by decide)) hcells hslots rfl fun H1 cA e1 z1 o1 hAr hNm => ?_
  have hcA : cA = Z.2.1 0 := by
    have h9 : s.vm.findClass ("[" ++ (FieldType.int).toString) = some (Z.2.1 0) := (cx.2.1.2 0 (Z.2.1 0, .int) rfl).2
    exact Option.some.inj (hNm.symm.trans h9)
  subst hcA
  have hat : yAt Z.1 (alp al a b H.size) (szero S a b) a b (.inr (.inl (Z.2.1 0, N))) H1 := by
    show H1[alp al a b H.size a b]? = some (vp_cell _ _)
    rw [alp_self, vp_cell_i, e1]
    congr 2
    funext j
    simp [szero, defaultValue, newarray.typeOf]
  exact k H.size H1 locs ls (hW.new hs ha z1 o1 (fun c d j h => by simp only [szero, if_neg h]) hat (fun _ _ _ _ e => by cases e)) ⟨Nat.le_trans hS.1 (by omega), fun x h1 h2 => (o1 x (Nat.lt_of_lt_of_le h1 hS.1)).trans (hS.2.1 x h1 h2), hS.2.2⟩ hl
theorem j_newc (cx : Cx p s m args c cc nL own Ts Z) (a b : Nat) (hs : sh a b = none) (ha : a ≠ 99) (harr : Cond.arrayClass (newarray.typeOf .char) ∈ Ts) {n : Int32} {N : Nat} (hn : ¬ n < 0) (hN : n.toNatClampNeg = N) (hb : N ≤ 10000) (hcells : cells + 1 ≤ R.cells) (hslots : slots + N ≤ R.slots) (d : decode cc pc = .ok (.newarray .char, 2)) (hp : pc + 2 = pc') (k : ∀ q : Nat, J p l e R s m args below meth c nL Z (cells + 1) (slots + N) Q (alp al a b q) (shp sh a b (.inr (.inl (Z.2.1 1, N)))) (szero S a b) pc' lv (.ref q :: st)) : J p l e R s m args below meth c nL Z cells slots Q al sh S pc lv (.int n :: st) := by
  subst hp
  intro H locs ls hW hS hl
  refine va_newaK cx.1.1 cx.1.2.1 (cx.1.2.2.2.2 _ harr) rfl d rfl hn hN (by show N * _ ≤ _; have h9 : componentBytes (newarray.typeOf .char) ≤ 8 := by decide
                                                                            exact Nat.le_trans (Nat.mul_le_mul hb h9) (by decide)) hcells hslots rfl fun H1 cA e1 z1 o1 hAr hNm => ?_
  have hcA : cA = Z.2.1 1 := by
    have h9 : s.vm.findClass ("[" ++ (FieldType.char).toString) = some (Z.2.1 1) := (cx.2.1.2 1 (Z.2.1 1, .char) rfl).2
    exact Option.some.inj (hNm.symm.trans h9)
  subst hcA
  have hat : yAt Z.1 (alp al a b H.size) (szero S a b) a b (.inr (.inl (Z.2.1 1, N))) H1 := by
    show H1[alp al a b H.size a b]? = some (vp_cell _ _)
    rw [alp_self, vp_cell_i, e1]
    congr 2
    funext j
    simp [szero, defaultValue, newarray.typeOf]
  exact k H.size H1 locs ls (hW.new hs ha z1 o1 (fun c d j h => by simp only [szero, if_neg h]) hat (fun _ _ _ _ e => by cases e)) ⟨Nat.le_trans hS.1 (by omega), fun x h1 h2 => (o1 x (Nat.lt_of_lt_of_le h1 hS.1)).trans (hS.2.1 x h1 h2), hS.2.2⟩ hl
section THROW
variable {mc ms : Nat} {post : yPost} {px : String → Prop}
theorem y_hat (cx : Cx p s m args c cc nL own Ts Z) {L : List Cond} (h1 : ∀ w ∈ L.filter goodWord, w ∈ Ts) (h2 : ∀ w ∈ L.filter (fun w => !goodWord w), (∃ q ∈ yCast, w = .castable q.1 q.2) ∨ ∃ q ∈ yDecl, w = .declares q) : ∀ w ∈ L, w.before args s = true := by
  intro w hw
  by_cases hg : goodWord w = true
  · exact cx.1.2.2.2.2 w (h1 w (List.mem_filter.mpr ⟨hw, hg⟩))
  · rcases h2 w (List.mem_filter.mpr ⟨hw, by simp [hg]⟩) with ⟨q, hq, rfl⟩ | ⟨q, hq, rfl⟩
    · exact va_Nw.use (A := args) rfl (cx.2.2.2.2.2.2.2.2.2.1.1 q hq)
    · exact va_any rfl (cx.2.2.2.2.2.2.2.2.2.1.2.1 q hq)
theorem j_throwS (cx : Cx p s m args c cc nL own Ts Z) (hl0 : l.stackTraces = false) (hlk : meth.locks = false) (htb : ∀ x ∈ c.exceptionTable.toList, False) {cls text : String} {names : List String} {ik is ic : Nat} (hown : own = RX2) (hmem : (is, text) ∈ yStrs) (hcls : Bundle.fit cls = true) (hnames : ∀ n ∈ names, Bundle.fit n = true) (hk : Cond.classLink own ik cls ∈ Ts) (hini : Cond.initialized cls ∈ Ts) (h1 : ∀ w ∈ (vx_atS own ic cls names).filter goodWord, w ∈ Ts)
    (h2 : ∀ w ∈ (vx_atS own ic cls names).filter (fun w => !goodWord w), (∃ q ∈ yCast, w = .castable q.1 q.2) ∨ ∃ q ∈ yDecl, w = .declares q) (hgood : ∀ w ∈ Cond.classLink own ik cls :: Cond.initialized cls :: vx_atS own ic cls names, vx_ot w = true)
    (d0 : decode cc pc = .ok (.new ik, 3)) (d3 : decode cc (pc + 3) = .ok (.dup, 1)) (d4 : decode cc (pc + 4) = .ok (.ldc is, 2)) (d6 : decode cc (pc + 6) = .ok (.invokespecial ic, 3)) (d9 : decode cc (pc + 9) = .ok (.athrow, 1))
    (hRf : names.length + 3 < R.frames) (hRl : (st.map fun v => v.category).sum + (13 * (names.length + 1) + 43) ≤ R.locals) (hRc : cells + 1 ≤ R.cells) (hRs : slots + 6 ≤ R.slots) (hc : cells + 1 ≤ mc) (hs : slots + 6 ≤ ms) (hp : px cls) :
    J p l e R s m args below meth c nL Z cells slots (vx_MQ below (Qn Z post) (Qx Z px al sh S) args s mc ms (yF Z)) al sh S pc lv st := by
  subst hown
  intro H locs ls hW hS hl
  obtain ⟨sa, hsa⟩ := cx.2.2.2.2.2.1 _ hmem
  refine vx_throwS cx.1.1 cx.1.2.1 hl0 cx.1.2.2.2.1 hcls hnames (cx.1.2.2.2.2 _ hk) (cx.1.2.2.2.2 _ hini) hsa (y_hat cx h1 h2) hgood cx.2.2.2.1 cx.2.2.2.2.1 hS (hl.1.trans cx.1.2.2.1.symm) d0 d3 d4 d6 d9 (fun x hx => (htb x hx).elim) hRf hRl hRc hRs hlk (fun t ht hz hq => ⟨hp, hW.kept hz hq, ?_⟩) hS.2.2 hc hs
  exact ⟨Nat.le_trans hS.1 hz, fun q g1 g2 => (hq q (Nat.lt_of_lt_of_le g1 hS.1)).trans (hS.2.1 q g1 g2)⟩
theorem j_throwSW (cx : Cx p s m args c cc nL own Ts Z) (hl0 : l.stackTraces = false) (hlk : meth.locks = false) (htb : ∀ x ∈ c.exceptionTable.toList, False) {cls text : String} {names : List String} {ik is ic : Nat} (hown : own = RX2) (hmem : (is, text) ∈ yStrs) (hcls : Bundle.fit cls = true) (hnames : ∀ n ∈ names, Bundle.fit n = true) (hk : Cond.classLink own ik cls ∈ Ts) (hini : Cond.initialized cls ∈ Ts) (h1 : ∀ w ∈ (vx_atS own ic cls names).filter goodWord, w ∈ Ts)
    (h2 : ∀ w ∈ (vx_atS own ic cls names).filter (fun w => !goodWord w), (∃ q ∈ yCast, w = .castable q.1 q.2) ∨ ∃ q ∈ yDecl, w = .declares q) (hgood : ∀ w ∈ Cond.classLink own ik cls :: Cond.initialized cls :: vx_atS own ic cls names, vx_ot w = true)
    (d0 : decode cc pc = .ok (.new ik, 3)) (d3 : decode cc (pc + 3) = .ok (.dup, 1)) (d4 : decode cc (pc + 4) = .ok (.ldc_w is, 3)) (d6 : decode cc (pc + 7) = .ok (.invokespecial ic, 3)) (d9 : decode cc (pc + 10) = .ok (.athrow, 1))
    (hRf : names.length + 3 < R.frames) (hRl : (st.map fun v => v.category).sum + (13 * (names.length + 1) + 43) ≤ R.locals) (hRc : cells + 1 ≤ R.cells) (hRs : slots + 6 ≤ R.slots) (hc : cells + 1 ≤ mc) (hs : slots + 6 ≤ ms) (hp : px cls) :
    J p l e R s m args below meth c nL Z cells slots (vx_MQ below (Qn Z post) (Qx Z px al sh S) args s mc ms (yF Z)) al sh S pc lv st := by
  subst hown
  intro H locs ls hW hS hl
  obtain ⟨sa, hsa⟩ := cx.2.2.2.2.2.1 _ hmem
  refine vx_throwSW cx.1.1 cx.1.2.1 hl0 cx.1.2.2.2.1 hcls hnames (cx.1.2.2.2.2 _ hk) (cx.1.2.2.2.2 _ hini) hsa (y_hat cx h1 h2) hgood cx.2.2.2.1 cx.2.2.2.2.1 hS (hl.1.trans cx.1.2.2.1.symm) d0 d3 d4 d6 d9 (fun x hx => (htb x hx).elim) hRf hRl hRc hRs hlk (fun t ht hz hq => ⟨hp, hW.kept hz hq, ?_⟩) hS.2.2 hc hs
  exact ⟨Nat.le_trans hS.1 hz, fun q g1 g2 => (hq q (Nat.lt_of_lt_of_le g1 hS.1)).trans (hS.2.1 q g1 g2)⟩
theorem j_throwSWX (cx : Cx p s m args c cc nL own Ts Z) (hl0 : l.stackTraces = false) (hlk : meth.locks = false) (htb : ∀ x ∈ c.exceptionTable.toList, False) {cls text : String} {names : List String} {ik is ic : Nat} {ix : Nat} {rx : ByteArray} (x0 : decode rx 0 = .ok (.aload_n 0, 1)) (x1 : decode rx 1 = .ok (.aload_n 1, 1)) (x2 : decode rx 2 = .ok (.invokespecial ix, 3)) (x5 : decode rx 5 = .ok (.return_, 1)) (hown : own = RX2) (hmem : (is, text) ∈ yStrs) (hcls : Bundle.fit cls = true) (hnames : ∀ n ∈ names, Bundle.fit n = true) (hk : Cond.classLink own ik cls ∈ Ts) (hini : Cond.initialized cls ∈ Ts) (h1 : ∀ w ∈ (vx_atSX own ic cls ix rx names).filter goodWord, w ∈ Ts)
    (h2 : ∀ w ∈ (vx_atSX own ic cls ix rx names).filter (fun w => !goodWord w), (∃ q ∈ yCast, w = .castable q.1 q.2) ∨ ∃ q ∈ yDecl, w = .declares q) (hgood : ∀ w ∈ Cond.classLink own ik cls :: Cond.initialized cls :: vx_atSX own ic cls ix rx names, vx_ot w = true)
    (d0 : decode cc pc = .ok (.new ik, 3)) (d3 : decode cc (pc + 3) = .ok (.dup, 1)) (d4 : decode cc (pc + 4) = .ok (.ldc_w is, 3)) (d6 : decode cc (pc + 7) = .ok (.invokespecial ic, 3)) (d9 : decode cc (pc + 10) = .ok (.athrow, 1))
    (hRf : names.length + 3 < R.frames) (hRl : (st.map fun v => v.category).sum + (13 * (names.length + 1) + 43) ≤ R.locals) (hRc : cells + 1 ≤ R.cells) (hRs : slots + 6 ≤ R.slots) (hc : cells + 1 ≤ mc) (hs : slots + 6 ≤ ms) (hp : px cls) :
    J p l e R s m args below meth c nL Z cells slots (vx_MQ below (Qn Z post) (Qx Z px al sh S) args s mc ms (yF Z)) al sh S pc lv st := by
  subst hown
  intro H locs ls hW hS hl
  obtain ⟨sa, hsa⟩ := cx.2.2.2.2.2.1 _ hmem
  refine vx_throwSWX cx.1.1 cx.1.2.1 hl0 x0 x1 x2 x5 cx.1.2.2.2.1 hcls hnames (cx.1.2.2.2.2 _ hk) (cx.1.2.2.2.2 _ hini) hsa (y_hat cx h1 h2) hgood cx.2.2.2.1 cx.2.2.2.2.1 hS (hl.1.trans cx.1.2.2.1.symm) d0 d3 d4 d6 d9 (fun x hx => (htb x hx).elim) hRf hRl hRc hRs hlk (fun t ht hz hq => ⟨hp, hW.kept hz hq, ?_⟩) hS.2.2 hc hs
  exact ⟨Nat.le_trans hS.1 hz, fun q g1 g2 => (hq q (Nat.lt_of_lt_of_le g1 hS.1)).trans (hS.2.1 q g1 g2)⟩
end THROW
end JROWS
/-! a method's contract out of the walk of its body -/
section STARTS
variable {l : Launch} {y : MethodName} {ws ws' : List Cond} {rm : Room} {mc ms : Nat} {Z : yL} {av : List Value} {al : yAl} {sh : ySh} {S : yS} {post : yPost} {px : String → Prop} {bytes : ByteArray} {maxL : Nat} {ret : Option FieldType} {lv : List (Nat × Value)} {hh : List (Nat × Nat × Nat × Nat)}
theorem J.start {p : Program} {e : Env} {s : State} {m : MethodId} {below : List Frame} {meth : Method} {c : Code} {Q : State → Prop} (hlen : (lg_sl av).length ≤ maxL) (hlv : lv_args 0 av = lv) (hP : yP Z al sh S s) (k : J p l e rm s m av.toArray below meth c maxL Z 0 0 Q al sh S 0 lv []) : W p l e rm s m av.toArray below meth c s.heap [] 0 0 Q (entryFrame m av.toArray maxL) := by
  have hl := lv_entry av (n := maxL) hlen
  rw [lg_entry_eq]
  rw [hlv] at hl
  exact k _ _ _ hP.1 va_S.rf hl
theorem Ct.of (hy : plainName y.cls = true) (hw : ws = Cond.code y bytes maxL ret :: ws') (hlen : (lg_sl av).length ≤ maxL) (hlv : lv_args 0 av = lv)
    (body : ∀ p e s m below meth c, Cx p s m av.toArray c bytes maxL y.cls ws Z → meth.locks = false → meth.sig.returnType = ret → meth.name = y.name → J p l e rm s m av.toArray below meth c maxL Z 0 0 (MQ below (Qn Z post) av.toArray s mc ms (yF Z)) al sh S 0 lv []) : Ct l y ws rm mc ms Z av al sh S post := by
  refine Met.ofW (cc := bytes) (maxL := maxL) (ret := ret) hy hw ?_
  intro p e s m args below meth c s₁ B hml hv
  obtain ⟨rfl, hP⟩ := hv
  exact J.start hlen hlv hP (body p e s m below meth c ⟨⟨B.exec, B.bytes, hml, findClass_of_methodNamed B.named, atoms_spec (ws := ws) B.pre⟩, hP.2.1, hP.1.1, hP.2.2⟩ B.notSynchronized B.returns (name_of_methodNamed B.named B.method).1)
theorem Cq.of (hy : plainName y.cls = true) (hw : ws = Cond.code y bytes maxL ret :: ws') (hlen : (lg_sl av).length ≤ maxL) (hlv : lv_args 0 av = lv)
    (body : ∀ p e s m below meth c, Cx p s m av.toArray c bytes maxL y.cls ws Z → meth.locks = false → meth.sig.returnType = ret → (∀ x ∈ c.exceptionTable.toList, False) → J p l e rm s m av.toArray below meth c maxL Z 0 0 (vx_MQ below (Qn Z post) (Qx Z px al sh S) av.toArray s mc ms (yF Z)) al sh S 0 lv []) : Cq l y ws rm mc ms Z av al sh S post px := by
  refine vx_ofW (cc := bytes) (maxL := maxL) (ret := ret) hy hw ?_
  intro p e s m args below meth c s₁ B hml ht hv
  obtain ⟨rfl, hP⟩ := hv
  exact J.start hlen hlv hP (body p e s m below meth c ⟨⟨B.exec, B.bytes, hml, findClass_of_methodNamed B.named, atoms_spec (ws := ws) B.pre⟩, hP.2.1, hP.1.1, hP.2.2⟩ B.notSynchronized B.returns ht)
end STARTS
