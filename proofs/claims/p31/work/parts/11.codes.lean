/-! the code of each call (0: it goes through), of both sides -/
abbrev oN (n : Nat) (x : Int32) : Prop := x < 0 ∨ n ≤ x.toNatClampNeg
theorem vin {n : Nat} {x : Int32} (h : vp_in x n) : ¬ oN n x := h
theorem nvin {n : Nat} {x : Int32} (h : ¬ vp_in x n) : oN n x := Decidable.of_not_not h
theorem vinm {n : Nat} {x : Int32} (h : ¬ oN n x) : vp_in x n := h
def kSet (p i h : Int32) : Int32 := if oR 0 2 p ∨ oR 1 999 i ∨ oR 1 999 h then 1 else 0
def kAdd (p r s : Int32) (n : Nat) : Int32 := if oR 0 2 p ∨ oR 0 2 r ∨ oR 1 4 s then 1 else if 6 ≤ n then 2 else 0
def kDrain (n : Nat) (x how : Int32) : Int32 := if oN n x then 1 else if how = 117 then 0 else 2
def kPut (n : Nat) (x how : Int32) : Int32 := if oN n x then 1 else if how = 117 then 2 else 0
def kIdx (n : Nat) (x : Int32) : Int32 := if oN n x then 1 else 0
def kNext (p : Int32) (best : Option Nat) : Int32 := if oR 0 2 p then 1 else match best with | none => 2 | some _ => 0
def kPool (p : Int32) : Int32 := if oR 0 2 p then 1 else 0
def kAss (u d : Int32) : Int32 := if oR 0 9 u ∨ oR 0 3 d then 1 else 0
def kBuy (d m have_ : Int32) : Int32 := if oR 0 3 d ∨ oR 1 5000 m then 1 else if 99999 < have_ + m then 2 else 0
def kLend (f t m have_ : Int32) : Int32 := if oR 0 3 f ∨ oR 0 3 t ∨ f = t ∨ oR 1 5000 m then 1 else if have_ < m then 2 else 0
def kGive (f t m owes have_ : Int32) : Int32 := if oR 0 3 f ∨ oR 0 3 t ∨ f = t ∨ oR 1 5000 m then 1 else if owes < m then 2 else if have_ < m then 3 else 0
def kDep (d : Int32) : Int32 := if oR 0 3 d then 1 else 0
def kIn (u p : Int32) (owns : Prop) [Decidable owns] (n : Nat) (have_ : Int32) (best : Option Nat) : Int32 := if oR 0 9 u ∨ oR 0 2 p then 1 else if owns ∨ 40 ≤ n then 2 else if have_ < 1 then 3 else match best with | none => 4 | some _ => 0
def kLive (n : Nat) (x : Int32) (live : Prop) [Decidable live] : Int32 := if oN n x then 1 else if live then 0 else 2
def kTake (n : Nat) (x u cur : Int32) (live : Prop) [Decidable live] (have_ : Int32) : Int32 := if oN n x then 1 else if oR 0 9 u ∨ cur = u then 2 else if live then (if have_ < 1 then 4 else 0) else 3
def kHand (n : Nat) (x : Int32) (live same : Prop) [Decidable live] [Decidable same] : Int32 := if oN n x then 1 else if live then (if same then 2 else 0) else 2
def kPrint (n : Nat) (x g : Int32) (live : Prop) [Decidable live] (have_ : Int32) : Int32 := if oN n x then 1 else if oR 1 99 g then 2 else if live then (if have_ < g * 2 then 4 else 0) else 3
def kChg (n : Nat) (x d : Int32) : Int32 := if oN n x then 1 else if oR 0 3 d then 2 else 0
def kPass (m now : Int32) : Int32 := if oR 1 60 m ∨ 5000 < now + m then 1 else 0
def kAll (a : Int32) : Int32 := if a = 0 then 1 else 0
/-! the class's own functions of the numbers -/
def cDep (S : yS) (i : Nat) : Nat := (S 4 0 (S 21 i 4).toNatClampNeg).toNatClampNeg
def fMove (S : yS) (f t : Nat) (m : Int32) : yS := sup (sup S 5 0 f (S 5 0 f - m)) 5 0 t (sup S 5 0 f (S 5 0 f - m) 5 0 t + m)
def fCharge (S : yS) (i : Nat) (m : Int32) : yS := sup (sup S 5 0 (cDep S i) (S 5 0 (cDep S i) - m)) 22 i (cDep S i) (S 22 i (cDep S i) + m)
def fTo (S : yS) (i : Nat) (u : Int32) : yS := sup (sup S 21 i 4 u) 21 i 5 (S 0 0 9)
theorem j_ldc {p : Program} {l : Launch} {e : Env} {R : Room} {s : State} {m : MethodId} {args : Array Value} {below : List Frame} {meth : Method} {c : Code} {cells slots : Nat} {Q : State → Prop} {cc : ByteArray} {nL pc pc' : Nat} {own : String} {Ts : List Cond} {Z : yL} {al : yAl} {sh : ySh} {S : yS} {lv : List (Nat × Value)} {st : List Value} (cx : Cx p s m args c cc nL own Ts Z) {idx : Nat} {v : Int32} (hc : Jvm.Cond.constant own idx v ∈ Ts) (d : decode cc pc = .ok (.ldc idx, 2)) (hp : pc + 2 = pc') (k : J p l e R s m args below meth c nL Z cells slots Q al sh S pc' lv (.int v :: st)) : J p l e R s m args below meth c nL Z cells slots Q al sh S pc lv st := by
  subst hp
  exact fun H locs ls hW hS hl => lv_ldc cx.1.1 cx.1.2.1 cx.1.2.2.2.1 (cx.1.2.2.2.2 _ hc) d (k H locs ls hW hS hl)
theorem fCharge_o {S : yS} {i : Nat} {m : Int32} {a b j : Nat} (h : a ≠ 5) (h2 : a ≠ 22) : fCharge S i m a b j = S a b j := by simp [fCharge, sup, h, h2]
theorem fRep_o {S : yS} {i : Nat} {a b j : Nat} (h : ¬ (a = 20 ∧ j = 4)) : fRep S i a b j = S a b j := by
  unfold fRep
  split
  · exact sup_ne _ _ (fun q => h ⟨q.1, q.2.2⟩)
  · rfl
theorem fEnd_o {S : yS} {mu i : Nat} {how : Int32} {a b j : Nat} (h : a ≠ 20) (h2 : ¬ (a = 21 ∧ j = 6)) : fEnd S mu i how a b j = S a b j := by
  unfold fEnd
  rw [fRep_o (fun q => h q.1), sup_off _ _ (fun q => h q.1), sup_ne _ _ (fun q => h2 ⟨q.1, q.2.2⟩)]
theorem fTo_o {S : yS} {i : Nat} {u : Int32} {a b j : Nat} (h : a ≠ 21) : fTo S i u a b j = S a b j := by simp [fTo, sup, h]
def hMin (S : yS) (mi i : Nat) : Int32 := if 1 ≤ S 5 0 (cDep S i) then (if S 0 0 9 - S 21 i 5 < S 1 0 (S 20 mi 1).toNatClampNeg then (if S 0 0 9 - S 21 i 2 < S 2 0 (S 20 mi 1).toNatClampNeg then 97 else 120) else 105) else 111
def fMin (S : yS) (i : Nat) : yS := if 1 ≤ S 5 0 (cDep S i) then fCharge S i 1 else S
def qState (S : yS) (i : Nat) : Int32 := if S 21 i 6 = 97 ∧ ¬ S 21 i 4 = S 21 i 0 then 116 else S 21 i 6
def fPrint (S : yS) (mi i : Nat) (g : Int32) : yS := sup (sup (sup (fCharge S i (g * 2)) 0 0 10 (S 0 0 10 + g * 2)) 21 i 5 (S 0 0 9)) 3 0 (S 20 mi 2).toNatClampNeg (S 3 0 (S 20 mi 2).toNatClampNeg + g)
