section JROWS2
variable {p : Program} {l : Launch} {e : Env} {R : Room} {s : State} {m : MethodId} {args : Array Value} {below : List Frame} {meth : Method} {c : Code} {cells slots : Nat} {Q : State → Prop} {cc : ByteArray} {nL pc pc' : Nat} {own : String} {Ts : List Cond} {Z : yL} {al : yAl} {sh : ySh} {S : yS} {lv lv' : List (Nat × Value)} {st rest : List Value}
theorem j_aload_nN (cx : Cx p s m args c cc nL own Ts Z) {kk : Fin 4} {i j : Nat} (d : decode cc pc = .ok (.aload_n kk, 1)) (hi : (kk : Nat) = i) (hk : lv[j]? = some (i, .null)) (hp : pc + 1 = pc') (k : J p l e R s m args below meth c nL Z cells slots Q al sh S pc' lv (.null :: st)) : J p l e R s m args below meth c nL Z cells slots Q al sh S pc lv st := by
  subst hp
  exact fun H locs ls hW hS hl => lv_aload_nN cx.1.1 cx.1.2.1 d hi (lv_at hl j hk) (k H locs ls hW hS hl)
theorem j_astore_nN (cx : Cx p s m args c cc nL own Ts Z) {kk : Fin 4} {i : Nat} (d : decode cc pc = .ok (.astore_n kk, 1)) (hi : (kk : Nat) = i) (hn : i < nL) (hl' : (i, Value.null) :: lv.filter (fun q => !(q.1 == i) && !(q.1 + 1 == i && q.2.category == 2)) = lv') (hp : pc + 1 = pc') (k : J p l e R s m args below meth c nL Z cells slots Q al sh S pc' lv' st) : J p l e R s m args below meth c nL Z cells slots Q al sh S pc lv (.null :: st) := by
  subst hp
  exact fun H locs ls hW hS hl => lv_astore_nN cx.1.1 cx.1.2.1 d hi hl hn hl' (fun ls' h' => k H locs ls' hW hS h')
theorem j_ifnull (cx : Cx p s m args c cc nL own Ts Z) {x : Nat} {off : Int} (d : decode cc pc = .ok (.ifnull off, 3)) (hp : pc + 3 = pc') (k : J p l e R s m args below meth c nL Z cells slots Q al sh S pc' lv st) : J p l e R s m args below meth c nL Z cells slots Q al sh S pc lv (.ref x :: st) := by
  subst hp
  exact fun H locs ls hW hS hl => lv_ifnull cx.1.1 cx.1.2.1 d (k H locs ls hW hS hl)
theorem j_ifnonnullN (cx : Cx p s m args c cc nL own Ts Z) {off : Int} (d : decode cc pc = .ok (.ifnonnull off, 3)) (hp : pc + 3 = pc') (k : J p l e R s m args below meth c nL Z cells slots Q al sh S pc' lv st) : J p l e R s m args below meth c nL Z cells slots Q al sh S pc lv (.null :: st) := by
  subst hp
  exact fun H locs ls hW hS hl => lv_ifnonnullN cx.1.1 cx.1.2.1 d (k H locs ls hW hS hl)
theorem j_ifnullN (cx : Cx p s m args c cc nL own Ts Z) {off : Int} {tgt : Nat} (d : decode cc pc = .ok (.ifnull off, 3)) (ht : (pc : Int) + off = (tgt : Int)) (k : J p l e R s m args below meth c nL Z cells slots Q al sh S tgt lv st) : J p l e R s m args below meth c nL Z cells slots Q al sh S pc lv (.null :: st) := fun H locs ls hW hS hl => lv_ifnullN cx.1.1 cx.1.2.1 d ht (k H locs ls hW hS hl)
theorem j_ifnonnull (cx : Cx p s m args c cc nL own Ts Z) {x : Nat} {off : Int} {tgt : Nat} (d : decode cc pc = .ok (.ifnonnull off, 3)) (ht : (pc : Int) + off = (tgt : Int)) (k : J p l e R s m args below meth c nL Z cells slots Q al sh S tgt lv st) : J p l e R s m args below meth c nL Z cells slots Q al sh S pc lv (.ref x :: st) := fun H locs ls hW hS hl => lv_ifnonnull cx.1.1 cx.1.2.1 d ht (k H locs ls hW hS hl)
theorem J.stk {st2 : List Value} (h : st = st2) (k : J p l e R s m args below meth c nL Z cells slots Q al sh S pc lv st2) : J p l e R s m args below meth c nL Z cells slots Q al sh S pc lv st := h ▸ k
end JROWS2
theorem nI_gg {n : Nat} : nI n ≤ nI n := by rw [Int32.le_iff_toInt_le]; omega
/-! loops of the class, told by what is left: from i on, k steps -/
/-- free seats of a pool -/
def lFree (S : yS) (p : Int32) (i : Nat) (a : Int32) : Nat → Int32
  | 0 => a
  | k + 1 => lFree S p (i + 1) (if S 20 i 4 = 117 ∧ S 20 i 1 = p then a + (S 20 i 3 - S 20 i 5) else a) k
/-- the machine of a pool with the fewest live sessions -/
def lBest (S : yS) (p : Int32) (i : Nat) (b : Option Nat) : Nat → Option Nat
  | 0 => b
  | k + 1 => lBest S p (i + 1) (if S 20 i 4 = 117 ∧ S 20 i 1 = p then (if S 20 i 3 - S 20 i 5 ≤ 0 then b else match b with | none => some i | some j => if S 20 j 5 ≤ S 20 i 5 then b else some i) else b) k
def lOwns (S : yS) (u : Int32) (i : Nat) : Nat → Bool
  | 0 => false
  | k + 1 => if S 21 i 0 = u ∧ S 21 i 6 = 97 then true else lOwns S u (i + 1) k
def lSum (S : yS) (i : Nat) (a : Int32) : Nat → Int32
  | 0 => a
  | k + 1 => lSum S (i + 1) (a + qIn S i) k
def lSub (S : yS) (d : Nat) (i : Nat) (a : Int32) : Nat → Int32
  | 0 => a
  | k + 1 => lSub S d (i + 1) (a - S 22 i d) k
/-- what a minute does to the session i -/
def sMin (S : yS) (mi i : Nat) : yS := if S 21 i 6 = 97 then (if hMin S mi i = 97 then fMin S i else fEnd (fMin S i) mi i (hMin S mi i)) else S
def eMin (S : yS) (mi i : Nat) (a : Int32) : Int32 := if S 21 i 6 = 97 then (if hMin S mi i = 97 then a else a + 1) else a
def lMin (mu : Nat → Nat) (T : yS) (i : Nat) : Nat → yS
  | 0 => T
  | k + 1 => lMin mu (sMin T (mu i) i) (i + 1) k
def lCnt (mu : Nat → Nat) (T : yS) (i : Nat) (a : Int32) : Nat → Int32
  | 0 => a
  | k + 1 => lCnt mu (sMin T (mu i) i) (i + 1) (eMin T (mu i) i a) k
def fTick (T : yS) : yS := sup T 0 0 9 (T 0 0 9 + 1)
def lPass (mu : Nat → Nat) (ns : Nat) (T : yS) : Nat → yS
  | 0 => T
  | k + 1 => lPass mu ns (lMin mu (fTick T) 0 ns) k
def lEnd (mu : Nat → Nat) (ns : Nat) (T : yS) (a : Int32) : Nat → Int32
  | 0 => a
  | k + 1 => lEnd mu ns (lMin mu (fTick T) 0 ns) (a + lCnt mu (fTick T) 0 0 ns) k
def mBy (S : yS) (d n : Nat) : Int32 := lSub S d 0 (S 6 0 d + (S 8 d 0 - S 8 0 d) + (S 8 d 1 - S 8 1 d) + (S 8 d 2 - S 8 2 d) + (S 8 d 3 - S 8 3 d)) n
theorem hMin_n (S : yS) (mi i : Nat) : narrow .char (.int (hMin S mi i)) = .int (hMin S mi i) := by
  unfold hMin
  split
  · split
    · split <;> rfl
    · rfl
  · rfl
theorem hMin_f (S : yS) (mi i : Nat) : fits .char (.int (hMin S mi i)) = true := by
  unfold hMin
  split
  · split
    · split <;> rfl
    · rfl
  · rfl
/-- what the class's loops want of the numbers -/
def CI (S : yS) (nm ns : Nat) : Prop := S 9 0 2 = nI nm ∧ S 11 0 2 = nI ns ∧ (∀ i, i < ns → vp_in (S 21 i 4) 10) ∧ (∀ u, u < 10 → vp_in (S 4 0 u) 4) ∧ ∀ i, i < nm → vp_in (S 20 i 1) 3
theorem CI.of {S T : yS} {nm ns : Nat} (h : CI S nm ns) (h1 : T 9 0 2 = S 9 0 2) (h2 : T 11 0 2 = S 11 0 2) (h3 : ∀ i, T 21 i 4 = S 21 i 4) (h4 : ∀ u, T 4 0 u = S 4 0 u) (h5 : ∀ i, T 20 i 1 = S 20 i 1) : CI T nm ns :=
  ⟨by rw [h1]; exact h.1, by rw [h2]; exact h.2.1, fun i hi => by rw [h3]; exact h.2.2.1 i hi, fun u hu => by rw [h4]; exact h.2.2.2.1 u hu, fun i hi => by rw [h5]; exact h.2.2.2.2 i hi⟩
theorem fMin_o {S : yS} {i a b j : Nat} (h : a ≠ 5) (h2 : a ≠ 22) : fMin S i a b j = S a b j := by
  unfold fMin
  split
  · exact fCharge_o h h2
  · rfl
theorem fEnd_o2 {S : yS} {mi i : Nat} {how : Int32} {a b j : Nat} (h : ¬ (a = 20 ∧ (j = 4 ∨ j = 5))) (h2 : ¬ (a = 21 ∧ j = 6)) : fEnd S mi i how a b j = S a b j := by
  unfold fEnd
  rw [fRep_o (fun q => h ⟨q.1, Or.inl q.2⟩), sup_ne _ _ (fun q => h ⟨q.1, Or.inr q.2.2⟩), sup_ne _ _ (fun q => h2 ⟨q.1, q.2.2⟩)]
theorem sMin_o {S : yS} {mi i a b j : Nat} (h : a ≠ 5) (h2 : a ≠ 22) (h3 : ¬ (a = 20 ∧ (j = 4 ∨ j = 5))) (h4 : ¬ (a = 21 ∧ j = 6)) : sMin S mi i a b j = S a b j := by
  unfold sMin
  split
  · split
    · exact fMin_o h h2
    · rw [fEnd_o2 h3 h4, fMin_o h h2]
  · rfl
theorem CI.min {S : yS} {nm ns mi i : Nat} (h : CI S nm ns) : CI (sMin S mi i) nm ns :=
  h.of (sMin_o (by decide) (by decide) (by omega) (by omega)) (sMin_o (by decide) (by decide) (by omega) (by omega)) (fun _ => sMin_o (by decide) (by decide) (by omega) (by omega)) (fun _ => sMin_o (by decide) (by decide) (by omega) (by omega)) (fun _ => sMin_o (by decide) (by decide) (by omega) (by omega))
theorem CI.lmin {nm ns : Nat} {mu : Nat → Nat} : ∀ (k i : Nat) {S : yS}, CI S nm ns → CI (lMin mu S i k) nm ns
  | 0, _, _, h => h
  | k + 1, i, _, h => CI.lmin k (i + 1) h.min
theorem CI.tick {S : yS} {nm ns : Nat} (h : CI S nm ns) : CI (fTick S) nm ns := h.of (by simp [fTick, sup]) (by simp [fTick, sup]) (fun _ => by simp [fTick, sup]) (fun _ => by simp [fTick, sup]) (fun _ => by simp [fTick, sup])

