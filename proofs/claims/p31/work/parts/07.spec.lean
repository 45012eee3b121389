/-! the shapes of the two machines' worlds -/
def tgY : yTg := fun j => match j with
  | 0 => some (some (1, 0))
  | 1 => some (some (2, 0))
  | 2 => some (some (3, 0))
  | 3 => some (some (4, 0))
  | 4 => some (some (5, 0))
  | 5 => some (some (6, 0))
  | 6 => some (some (7, 0))
  | 7 => some (some (9, 0))
  | 8 => some (some (11, 0))
  | _ => none
def tgM : yTg := fun _ => none
def tgS (mi i : Nat) : yTg := fun j => match j with
  | 1 => some (some (20, mi))
  | 3 => some (some (22, i))
  | _ => none
def tgX : yTg := fun j => match j with
  | 2 => some (some (42, 0))
  | 3 => some (some (43, 0))
  | 5 => some (some (45, 0))
  | 6 => some (some (46, 0))
  | 7 => some (some (47, 0))
  | 8 => some (some (48, 0))
  | 9 => some (some (49, 0))
  | 10 => some (some (50, 0))
  | 11 => some (some (51, 0))
  | 13 => some (some (53, 0))
  | 14 => some (some (54, 0))
  | 15 => some (some (55, 0))
  | 16 => some (some (56, 0))
  | 17 => some (some (57, 0))
  | 18 => some (some (58, 0))
  | 19 => some (some (59, 0))
  | 20 => some (some (60, 0))
  | _ => none
/-- an int array of n places; a char array -/
abbrev yI (Z : yL) (n : Nat) : Option yShp := some (.inr (.inl (Z.2.1 0, n)))
abbrev yC (Z : yL) (n : Nat) : Option yShp := some (.inr (.inl (Z.2.1 1, n)))
/-- a list of n elements, the objects of kind kd; its object is k, its array k + 1 -/
def YL (Z : yL) (al : yAl) (sh : ySh) (k kd n : Nat) : Prop := ∃ tg : yTg, sh k 0 = some (.inl (2, tg)) ∧ tg 0 = none ∧ tg 2 = none ∧ ((n = 0 ∧ tg 1 = some (some (99, 0)) ∧ ∀ c', sh (k + 1) c' = none) ∨ ∃ (c : Nat) (f : Nat → Option Nat), n ≤ c ∧ 10 ≤ c ∧ c ≤ 60 ∧ tg 1 = some (some (k + 1, c)) ∧ sh (k + 1) c = some (.inr (.inr (Z.2.1 4, (c, .inr (.inr (.inr (.inr f))))))) ∧ (∀ i, i < n → f i = some (al kd i)) ∧ ∀ c', c < c' → sh (k + 1) c' = none)
/-- the class's world: nm machines, ns sessions, the session i on the machine mu i -/
def YC (Z : yL) (al : yAl) (sh : ySh) (nm ns : Nat) (mu : Nat → Nat) : Prop :=
  sh 0 0 = some (.inl (5, tgY)) ∧ sh 1 0 = yI Z 3 ∧ sh 2 0 = yI Z 3 ∧ sh 3 0 = yI Z 3 ∧ sh 4 0 = yI Z 10 ∧ sh 5 0 = yI Z 4 ∧ sh 6 0 = yI Z 4 ∧
  (∃ f : Nat → Option Nat, sh 7 0 = some (.inr (.inr (Z.2.1 5, (4, .inr (.inr (.inr (.inr f))))))) ∧ ∀ d, d < 4 → f d = some (al 8 d)) ∧ (∀ d, d < 4 → sh 8 d = yI Z 4) ∧
  YL Z al sh 9 20 nm ∧ YL Z al sh 11 21 ns ∧ (∀ i, i < nm → sh 20 i = some (.inl (3, tgM))) ∧ (∀ i, i < ns → sh 21 i = some (.inl (4, tgS (mu i) i))) ∧ (∀ i, i < ns → sh 22 i = yI Z 4) ∧ (∀ i, i < ns → mu i < nm) ∧ al 99 0 = Z.2.2.2.1 ∧ nm ≤ 6 ∧ ns ≤ 40
/-- a number outside a .. b -/
abbrev oR (a b x : Int32) : Prop := x < a ∨ b < x
theorem vp_in_out {x b : Int32} {n : Nat} (hb : b.toInt + 1 = n) (h : ¬ oR 0 b x) : vp_in x n := by
  rw [vp_in_iff]
  have h1 : ¬ x < 0 := fun q => h (Or.inl q)
  have h2 : ¬ b < x := fun q => h (Or.inr q)
  rw [Int32.lt_iff_toInt_lt] at h1 h2
  rw [show (0 : Int32).toInt = 0 by decide] at h1
  omega
theorem ix_of {x : Int32} {n : Nat} (h : vp_in x n) : x.toNatClampNeg < n := Nat.not_le.mp fun q => h (Or.inr q)
theorem ix_nI {x : Int32} {n : Nat} (h : vp_in x n) (hn : n < 2 ^ 31) : x = nI x.toNatClampNeg := by
  obtain ⟨j, hj, rfl⟩ := vp_in_of h hn
  rw [nI_clamp (by omega)]
/-- a machine that is draining and has no live session is in repair -/
def fRep (S : yS) (i : Nat) : yS := if S 20 i 4 = 103 ∧ S 20 i 5 = 0 then sup S 20 i 4 109 else S
def fEnd (S : yS) (mu i : Nat) (how : Int32) : yS := fRep (sup (sup S 21 i 6 how) 20 mu 5 (S 20 mu 5 - 1)) mu
def qIn (S : yS) (i : Nat) : Int32 := 0 + S 22 i 0 + S 22 i 1 + S 22 i 2 + S 22 i 3
abbrev xIA : String := "java/lang/IllegalArgumentException"
abbrev xIS : String := "java/lang/IllegalStateException"
abbrev xIB : String := "java/lang/IndexOutOfBoundsException"
abbrev xNS : String := "java/util/NoSuchElementException"
abbrev xUO : String := "java/lang/UnsupportedOperationException"
abbrev xAR : String := "java/lang/ArithmeticException"
/-- the class of the exception, by the code -/
def yx (L : List (Int32 × String)) (code : Int32) : String → Prop := fun E => ∃ q, q ∈ L ∧ E = q.2 ∧ code = q.1
def ymax (x y : Int32) : Int32 := if x < y then y else x
def ymin (x y : Int32) : Int32 := if y < x then y else x
section JMM
variable {p : Program} {l : Launch} {e : Env} {R : Room} {s : State} {m : MethodId} {args : Array Value} {below : List Frame} {meth : Method} {c : Code} {cells slots : Nat} {Q : State → Prop} {cc : ByteArray} {nL pc pc' : Nat} {own : String} {Ts : List Cond} {Z : yL} {al : yAl} {sh : ySh} {S : yS} {lv : List (Nat × Value)} {st : List Value}
theorem j_mmax (cx : Cx p s m args c cc nL own Ts Z) {idx : Nat} (h1 : Cond.methodLink own idx Lib.Math.max.name ∈ Ts) (h2 : Cond.static Lib.Math.max.name ∈ Ts) (h3 : Cond.initialized "java/lang/Math" ∈ Ts) (h4 : Cond.code Lib.Math.max.name Lib.Math.max.code 2 (some .int) ∈ Ts) {x y : Int32} (d : decode cc pc = .ok (.invokestatic idx, 3)) (hf : 1 ≤ R.frames) (hlo : (st.map fun v => v.category).sum + 13 ≤ R.locals) (hcs : cells ≤ R.cells := by exact Nat.le_of_ble_eq_true rfl) (hss : slots ≤ R.slots := by exact Nat.le_of_ble_eq_true rfl) (hp : pc + 3 = pc') (k : J p l e R s m args below meth c nL Z cells slots Q al sh S pc' lv (.int (ymax x y) :: st)) : J p l e R s m args below meth c nL Z cells slots Q al sh S pc lv (.int y :: .int x :: st) := by
  subst hp
  exact fun H locs ls hW hS hl => va_mmax cx.1.1 cx.1.2.1 (cx.1.2.2.1.trans hl.1.symm) cx.1.2.2.2.1 (cx.1.2.2.2.2 _ h1) (cx.1.2.2.2.2 _ h2) (cx.1.2.2.2.2 _ h3) (cx.1.2.2.2.2 _ h4) hf hlo hcs hss d (k H locs ls hW hS hl)
theorem j_mmin (cx : Cx p s m args c cc nL own Ts Z) {idx : Nat} (h1 : Cond.methodLink own idx Lib.Math.min.name ∈ Ts) (h2 : Cond.static Lib.Math.min.name ∈ Ts) (h3 : Cond.initialized "java/lang/Math" ∈ Ts) (h4 : Cond.code Lib.Math.min.name Lib.Math.min.code 2 (some .int) ∈ Ts) {x y : Int32} (d : decode cc pc = .ok (.invokestatic idx, 3)) (hf : 1 ≤ R.frames) (hlo : (st.map fun v => v.category).sum + 13 ≤ R.locals) (hcs : cells ≤ R.cells := by exact Nat.le_of_ble_eq_true rfl) (hss : slots ≤ R.slots := by exact Nat.le_of_ble_eq_true rfl) (hp : pc + 3 = pc') (k : J p l e R s m args below meth c nL Z cells slots Q al sh S pc' lv (.int (ymin x y) :: st)) : J p l e R s m args below meth c nL Z cells slots Q al sh S pc lv (.int y :: .int x :: st) := by
  subst hp
  exact fun H locs ls hW hS hl => va_mmin cx.1.1 cx.1.2.1 (cx.1.2.2.1.trans hl.1.symm) cx.1.2.2.2.1 (cx.1.2.2.2.2 _ h1) (cx.1.2.2.2.2 _ h2) (cx.1.2.2.2.2 _ h3) (cx.1.2.2.2.2 _ h4) hf hlo hcs hss d (k H locs ls hW hS hl)
theorem j_aconst (cx : Cx p s m args c cc nL own Ts Z) (d : decode cc pc = .ok (.aconst_null, 1)) (hp : pc + 1 = pc') (k : J p l e R s m args below meth c nL Z cells slots Q al sh S pc' lv (.null :: st)) : J p l e R s m args below meth c nL Z cells slots Q al sh S pc lv st := by
  subst hp
  exact fun H locs ls hW hS hl => lv_null cx.1.1 cx.1.2.1 d (k H locs ls hW hS hl)
end JMM
