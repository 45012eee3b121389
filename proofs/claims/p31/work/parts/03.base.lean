/-! THE LAYER J. A world: an address al a b, a shape sh a b for every key (kind a, number b), numbers S a b j (a field's or an array's place j). Shapes: an object (class number, targets of its reference fields), an array of ints or chars (class, length), any other array as it stands. Key kind 99: cells that were there before and are never written. -/
abbrev yTg := Nat → Option (Option (Nat × Nat))
abbrev yShp := (Nat × yTg) ⊕ ((ClassId × Nat) ⊕ (ClassId × vp_A))
abbrev yS := Nat → Nat → Nat → Int32
abbrev ySh := Nat → Nat → Option yShp
abbrev yAl := Nat → Nat → Nat
def sup (S : yS) (a b j : Nat) (v : Int32) : yS := fun a' b' j' => if a' = a ∧ b' = b ∧ j' = j then v else S a' b' j'
def szero (S : yS) (a b : Nat) : yS := fun a' b' j' => if a' = a ∧ b' = b then 0 else S a' b' j'
def shp (sh : ySh) (a b : Nat) (x : yShp) : ySh := fun a' b' => if a' = a ∧ b' = b then some x else sh a' b'
def alp (al : yAl) (a b q : Nat) : yAl := fun a' b' => if a' = a ∧ b' = b then q else al a' b'
def tgp (tg : yTg) (j : Nat) (r : Option (Nat × Nat)) : yTg := fun j' => if j' = j then some r else tg j'
theorem sup_self (S : yS) (a b j : Nat) (v : Int32) : sup S a b j v a b j = v := by simp [sup]
theorem sup_ne (S : yS) {a b j a' b' j' : Nat} (v : Int32) (h : ¬ (a' = a ∧ b' = b ∧ j' = j)) : sup S a b j v a' b' j' = S a' b' j' := by simp only [sup, if_neg h]
theorem sup_off (S : yS) {a b j a' b' j' : Nat} (v : Int32) (h : ¬ (a' = a ∧ b' = b)) : sup S a b j v a' b' j' = S a' b' j' := sup_ne S v (fun q => h ⟨q.1, q.2.1⟩)
theorem shp_self (sh : ySh) (a b : Nat) (x : yShp) : shp sh a b x a b = some x := by simp [shp]
theorem shp_ne (sh : ySh) {a b a' b' : Nat} (x : yShp) (h : ¬ (a' = a ∧ b' = b)) : shp sh a b x a' b' = sh a' b' := by simp only [shp, if_neg h]
theorem shp_id (sh : ySh) {a b : Nat} {x : yShp} (h : sh a b = some x) : shp sh a b x = sh := by
  funext c d
  by_cases e : c = a ∧ d = b
  · obtain ⟨rfl, rfl⟩ := e
    rw [shp_self, h]
  · rw [shp_ne _ _ e]
theorem alp_self (al : yAl) (a b q : Nat) : alp al a b q a b = q := by simp [alp]
theorem alp_ne (al : yAl) {a b a' b' : Nat} (q : Nat) (h : ¬ (a' = a ∧ b' = b)) : alp al a b q a' b' = al a' b' := by simp only [alp, if_neg h]
def yV (al : yAl) (S : yS) (a b : Nat) (tg : yTg) (j : Nat) : Value := match tg j with
  | none => .int (S a b j)
  | some r => va_rf (r.map (fun k => al k.1 k.2))
theorem yV_i {al : yAl} {S : yS} {a b j : Nat} {tg : yTg} (h : tg j = none) : yV al S a b tg j = .int (S a b j) := by unfold yV; rw [h]
theorem yV_r {al : yAl} {S : yS} {a b j : Nat} {tg : yTg} {k : Nat × Nat} (h : tg j = some (some k)) : yV al S a b tg j = .ref (al k.1 k.2) := by unfold yV; rw [h]; rfl
theorem yV_n {al : yAl} {S : yS} {a b j : Nat} {tg : yTg} (h : tg j = some none) : yV al S a b tg j = .null := by unfold yV; rw [h]; rfl
def yAt (G : va_G) (al : yAl) (S : yS) (a b : Nat) (x : yShp) (H : Heap) : Prop := match x with
  | .inl o => ∃ r : vw_C, vwCl[o.1]? = some r ∧ t_OB (al a b) (G.1 o.1) r.2.2 (G.2 o.1) H (yV al S a b o.2)
  | .inr (.inl o) => H[al a b]? = some (vp_cell o.1 (o.2, .inl (S a b)))
  | .inr (.inr o) => H[al a b]? = some (vp_cell o.1 o.2)
def yW (G : va_G) (n0 : Nat) (al : yAl) (sh : ySh) (S : yS) (H : Heap) : Prop :=
  n0 ≤ H.size ∧ (∀ a b x, sh a b = some x → n0 ≤ al a b ∧ yAt G al S a b x H) ∧
  (∀ a b c d x y, sh a b = some x → sh c d = some y → al a b = al c d → a = c ∧ b = d) ∧
  (∀ a b ci tg j k, sh a b = some (.inl (ci, tg)) → tg j = some (some k) → sh k.1 k.2 ≠ none ∨ k.1 = 99)
theorem yAt.lt {G : va_G} {al : yAl} {S : yS} {a b : Nat} {x : yShp} {H : Heap} (h : yAt G al S a b x H) : al a b < H.size := by
  rcases x with o | o | o
  · obtain ⟨r, -, cell, h2, -⟩ := h
    exact (Array.getElem?_eq_some_iff.mp h2).1
  · exact (Array.getElem?_eq_some_iff.mp h).1
  · exact (Array.getElem?_eq_some_iff.mp h).1
/-- the same thing in a heap, with addresses and numbers, that agree here -/
theorem yAt.keep {G : va_G} {al al' : yAl} {S S' : yS} {a b : Nat} {x : yShp} {H H1 : Heap} (h : yAt G al S a b x H) (hq : H1[al a b]? = H[al a b]?) (ha : al' a b = al a b) (hS : ∀ j, S' a b j = S a b j)
    (ht : ∀ ci tg j k, x = .inl (ci, tg) → tg j = some (some k) → al' k.1 k.2 = al k.1 k.2) : yAt G al' S' a b x H1 := by
  rcases x with ⟨ci, tg⟩ | o | o
  · obtain ⟨r, h1, h2⟩ := h
    refine ⟨r, h1, ?_⟩
    rw [ha]
    refine (h2.kept hq).to (fun j _ => ?_)
    show yV al S a b tg j = yV al' S' a b tg j
    cases hj : tg j with
    | none => rw [yV_i hj, yV_i hj, hS]
    | some r =>
      cases r with
      | none => rw [yV_n hj, yV_n hj]
      | some k => rw [yV_r hj, yV_r hj, ht ci tg j k rfl hj]
  · have e : S' a b = S a b := funext hS
    show H1[al' a b]? = some (vp_cell _ (_, .inl (S' a b)))
    rw [ha, hq, e]
    exact h
  · show H1[al' a b]? = _
    rw [ha, hq]
    exact h
/-- one cell changes, the keys stay -/
theorem yW.put {G : va_G} {n0 : Nat} {al : yAl} {sh : ySh} {S S' : yS} {H H1 : Heap} {a b : Nat} {x x' : yShp} (h : yW G n0 al sh S H) (hx : sh a b = some x) (z : H1.size = H.size) (oq : ∀ q : Nat, q ≠ al a b → H1[q]? = H[q]?)
    (hS : ∀ c d j, ¬ (c = a ∧ d = b) → S' c d j = S c d j) (hn : yAt G al S' a b x' H1) (hcl : ∀ ci tg j k, x' = .inl (ci, tg) → tg j = some (some k) → sh k.1 k.2 ≠ none ∨ k.1 = 99) : yW G n0 al (shp sh a b x') S' H1 := by
  obtain ⟨h1, h2, h3, h4⟩ := h
  refine ⟨by rw [z]; exact h1, fun c d y hy => ?_, fun c d c' d' y y' hy hy' he => ?_, fun c d ci tg j k hy hj => ?_⟩
  · by_cases e : c = a ∧ d = b
    · obtain ⟨rfl, rfl⟩ := e
      rw [shp_self] at hy
      cases hy
      exact ⟨(h2 _ _ _ hx).1, hn⟩
    · rw [shp_ne _ _ e] at hy
      obtain ⟨g1, g2⟩ := h2 c d y hy
      exact ⟨g1, g2.keep (oq _ (fun q => e (h3 c d a b y x hy hx q))) rfl (fun j => hS c d j e) (fun _ _ _ _ _ _ => rfl)⟩
  · have key : ∀ c d y, shp sh a b x' c d = some y → ∃ y0, sh c d = some y0 := fun c d y hy => by
      by_cases e : c = a ∧ d = b
      · exact ⟨x, by rw [e.1, e.2]; exact hx⟩
      · rw [shp_ne _ _ e] at hy
        exact ⟨y, hy⟩
    obtain ⟨y0, g0⟩ := key c d y hy
    obtain ⟨y1, g1⟩ := key c' d' y' hy'
    exact h3 c d c' d' y0 y1 g0 g1 he
  · have up : (sh k.1 k.2 ≠ none ∨ k.1 = 99) → (shp sh a b x' k.1 k.2 ≠ none ∨ k.1 = 99) := fun q => by
      by_cases e : k.1 = a ∧ k.2 = b
      · left
        rw [show shp sh a b x' k.1 k.2 = some x' by rw [e.1, e.2]; exact shp_self _ _ _ _]
        exact fun q => by cases q
      · rw [shp_ne _ _ e]
        exact q
    by_cases e : c = a ∧ d = b
    · obtain ⟨rfl, rfl⟩ := e
      rw [shp_self] at hy
      exact up (hcl ci tg j k (Option.some.inj hy) hj)
    · rw [shp_ne _ _ e] at hy
      exact up (h4 c d ci tg j k hy hj)
/-- a new cell, at a key that was free -/
theorem yW.new {G : va_G} {n0 : Nat} {al : yAl} {sh : ySh} {S S' : yS} {H H1 : Heap} {a b : Nat} {x' : yShp} (h : yW G n0 al sh S H) (hx : sh a b = none) (ha : a ≠ 99) (z : H1.size = H.size + 1) (oq : ∀ q : Nat, q < H.size → H1[q]? = H[q]?)
    (hS : ∀ c d j, ¬ (c = a ∧ d = b) → S' c d j = S c d j) (hn : yAt G (alp al a b H.size) S' a b x' H1) (hcl : ∀ ci tg j k, x' = .inl (ci, tg) → tg j ≠ some (some k)) : yW G n0 (alp al a b H.size) (shp sh a b x') S' H1 := by
  obtain ⟨h1, h2, h3, h4⟩ := h
  refine ⟨by omega, fun c d y hy => ?_, fun c d c' d' y y' hy hy' he => ?_, fun c d ci tg j k hy hj => ?_⟩
  · by_cases e : c = a ∧ d = b
    · obtain ⟨rfl, rfl⟩ := e
      rw [shp_self] at hy
      cases hy
      exact ⟨by rw [alp_self]; exact h1, hn⟩
    · rw [shp_ne _ _ e] at hy
      obtain ⟨g1, g2⟩ := h2 c d y hy
      refine ⟨by rw [alp_ne _ _ e]; exact g1, g2.keep (oq _ g2.lt) (alp_ne _ _ e) (fun j => hS c d j e) (fun ci tg j k hi hj => ?_)⟩
      refine alp_ne _ _ (fun q => ?_)
      subst hi
      rcases h4 c d ci tg j k hy hj with q1 | q1
      · exact q1 (by rw [q.1, q.2]; exact hx)
      · exact ha (q.1 ▸ q1)
  · have key : ∀ c d y, ¬ (c = a ∧ d = b) → shp sh a b x' c d = some y → sh c d = some y ∧ al c d < H.size := fun c d y e hy => by
      rw [shp_ne _ _ e] at hy
      exact ⟨hy, (h2 c d y hy).2.lt⟩
    by_cases e1 : c = a ∧ d = b <;> by_cases e2 : c' = a ∧ d' = b
    · exact ⟨e1.1.trans e2.1.symm, e1.2.trans e2.2.symm⟩
    · obtain ⟨-, g2⟩ := key c' d' y' e2 hy'
      rw [alp_ne _ _ e2, e1.1, e1.2, alp_self] at he
      omega
    · obtain ⟨-, g2⟩ := key c d y e1 hy
      rw [alp_ne _ _ e1, e2.1, e2.2, alp_self] at he
      omega
    · obtain ⟨g1, -⟩ := key c d y e1 hy
      obtain ⟨g2, -⟩ := key c' d' y' e2 hy'
      rw [alp_ne _ _ e1, alp_ne _ _ e2] at he
      exact h3 c d c' d' y y' g1 g2 he
  · by_cases e : c = a ∧ d = b
    · obtain ⟨rfl, rfl⟩ := e
      rw [shp_self] at hy
      exact absurd hj (hcl ci tg j k (Option.some.inj hy))
    · rw [shp_ne _ _ e] at hy
      rcases h4 c d ci tg j k hy hj with q | q
      · left
        by_cases e2 : k.1 = a ∧ k.2 = b
        · rw [e2.1, e2.2, shp_self]
          exact fun q => by cases q
        · rw [shp_ne _ _ e2]
          exact q
      · exact Or.inr q
theorem yW.kept {G : va_G} {n0 : Nat} {al : yAl} {sh : ySh} {S : yS} {H H1 : Heap} (h : yW G n0 al sh S H) (z : H.size ≤ H1.size) (oq : ∀ q : Nat, q < H.size → H1[q]? = H[q]?) : yW G n0 al sh S H1 :=
  ⟨Nat.le_trans h.1 z, fun a b x hx => ⟨(h.2.1 a b x hx).1, (h.2.1 a b x hx).2.keep (oq _ (h.2.1 a b x hx).2.lt) rfl (fun _ => rfl) (fun _ _ _ _ _ _ => rfl)⟩, h.2.2⟩
/-- the classes of the arrays -/
def yT (cs : Nat → ClassId) : List (ClassId × FieldType) := [(cs 0, .int), (cs 1, .char), (cs 2, .int), (cs 3, .int), (cs 4, .object "java/lang/Object"), (cs 5, .array .int)]
def yStrs : List (Nat × String) := [(60, "no such room"), (65, "a machine has from 1 to 4 seats"), (73, "there are 6 machines"), (85, "a limit is from 1 to 999"), (132, "a department buys up to 99999 minutes"), (145, "the department owes fewer minutes"), (155, "the user owns a live session"), (157, "there were 40 sessions"), (182, "this is the user of the session"), (195, "the owner is the user of the session"), (197, "pages are printed from 1 to 99 at once"), (230, "from 1 to 60 minutes pass at once"), (232, "time is counted up to 5000"), (242, "nothing was charged"), (245, "there were no sessions"), (247, "no such pool"), (249, "no such user"), (251, "no such department"), (253, "both departments are the same"), (255, "from 1 to 5000 minutes change hands at once"), (259, "the department has too few minutes"), (262, "the session is not live"), (269, "no such session"), (273, "no machine of the pool takes a session")]
def yExc : List String := ["java/lang/IllegalArgumentException", "java/lang/IllegalStateException", "java/lang/IndexOutOfBoundsException", "java/util/NoSuchElementException", "java/lang/UnsupportedOperationException", "java/lang/ArithmeticException"]
/-- those that the law catches -/
def yExcC : List String := ["java/lang/IllegalArgumentException", "java/lang/IllegalStateException", "java/lang/UnsupportedOperationException"]
def yCast : List (String × String) := yExc.map (fun q => (q, q)) ++ [("TerminalYard$Machine", "java/lang/Object"), ("TerminalYard$Session", "java/lang/Object")]
def yDecl : List MethodName := [⟨"java/lang/Object", "getClass", "()Ljava/lang/Class;"⟩, Bundle.initS "java/lang/RuntimeException", Bundle.initS "java/lang/Exception", Bundle.initS "java/lang/Throwable"]
def yB (U : State) : Prop := (∀ q ∈ yCast, va_Nw (.castable q.1 q.2) U) ∧ (∀ q ∈ yDecl, (Cond.declares q).before #[] U = true) ∧ ∀ x ∈ yExc, ∀ y ∈ yExcC, x ≠ y → va_Nc x y U
theorem yB_decl {x : MethodName} {u U : State} (hvm : u.vm.Alike U.vm) (h : (Cond.declares x).before #[] u = true) : (Cond.declares x).before #[] U = true := by
  have h1 : (Cond.declares x).before #[] (u.setVm U.vm) = true := by
    rw [Cond.declares_setVm hvm]
    exact h
  have e := Cond.onTables_vm (A := #[]) (A' := #[]) (U := u) (U' := U) U.vm (Cond.declares x) rfl
  have hU : U.setVm U.vm = U := rfl
  rw [hU] at e
  rw [← e]
  exact h1
theorem yB.warm {s U : State} (hW : s.WarmedH U.vm) (h : yB s) : yB U := ⟨fun q hq => (h.1 q hq).warmC hW, fun q hq => yB_decl hW.alike (h.2.1 q hq), fun x hx y hy hn => by
  obtain ⟨a, b, h1, h2, h3⟩ := h.2.2 x hx y hy hn
  exact ⟨a, b, by rw [hW.alike.findClass]; exact h1, by rw [hW.alike.findClass]; exact h2, by rw [hW.alike.assignable]; exact h3⟩⟩
theorem yB.calling {U : State} (g : JFrame) (mk : MethodId) (a : Array Value) (h : yB U) : yB (U.calling g mk a) := yB.warm (State.WarmedH.refl U) h
def yAOA (U : State) : Prop := (Cond.arrayOver (.array .int)).before #[] U = true
theorem y_idx_bare (vm : Vm) (comp : ClassId) : (vm.bare.classes.findIdx? fun (x : Class) => match x.kind with | .array component _ => component == comp | _ => false) = (vm.classes.findIdx? fun (x : Class) => match x.kind with | .array component _ => component == comp | _ => false) := by
  simp only [Vm.bare, Array.findIdx?_map]
  rfl
theorem yAOA.moved {u U : State} (hvm : u.vm.Alike U.vm) (h : yAOA u) : yAOA U := by
  obtain ⟨comp, c, k, h1, h2, h3, h4, h5⟩ := arrayOverA_spec h
  obtain ⟨k', hk', he⟩ := hvm.2.2 _ _ h3
  have hi : (U.vm.classes.findIdx? fun (x : Class) => match x.kind with | .array component _ => component == comp | _ => false) = some c := by
    rw [← y_idx_bare]
    first | rw [hvm.bare_eq] | rw [← hvm.bare_eq]
    rw [y_idx_bare]
    exact h2
  have hkind : k'.kind = .array comp (.array .int) := by rw [he]; exact h4
  have f1 : U.vm.findClass (FieldType.array .int).toString = some comp := by rw [hvm.findClass]; exact h1
  have f2 : U.vm.findClass ("[" ++ (FieldType.array .int).toString) = some c := by rw [hvm.findClass]; exact h5
  unfold yAOA Cond.before Cond.holds
  simp only [Cond.value]
  rw [f1, Option.bind_some]
  refine (congrArg (fun o : Option Nat => (o.bind (fun c => (U.vm.classes[c]?).map fun (k : Class) => match k.kind with | .array _ ty => decide (ty = FieldType.array .int) && decide (U.vm.findClass ("[" ++ (FieldType.array .int).toString) = some c) | _ => false) == some true)) hi).trans ?_
  simp [hk', hkind, f2]
/-- the links of the law to the private fields and the constructor of its nest mate -/
def yNF : List (Nat × String × String) := [(30, "minutes", "[I"), (116, "owes", "[[I"), (84, "of", "[I"), (36, "sessions", "I"), (57, "owner", "[I"), (42, "user", "[I"), (87, "began", "[I"), (90, "used", "[I"), (53, "end", "[C"), (64, "charged", "[[I"), (109, "printed", "I"), (74, "pages", "I"), (67, "all", "I"), (15, "time", "I")]
def yNM : MethodName := ⟨"TerminalYardLaw$Book", "<init>", "()V"⟩
def yNS (U : State) : Prop := (∀ q ∈ yNF, va_Nw (.fieldLinkNest "TerminalYardLaw" q.1 "TerminalYardLaw$Book" q.2.1 q.2.2 "TerminalYardLaw") U) ∧ va_Nw (.methodLinkNest "TerminalYardLaw" 172 yNM "TerminalYardLaw") U
theorem yNS.warm {s U : State} (hW : s.WarmedH U.vm) (h : yNS s) : yNS U := ⟨fun q hq => (h.1 q hq).warmF hW, h.2.warmM hW⟩
def yE (n0 tE mO : Nat) (U : State) (H : Heap) : Prop :=
  vx_Zq Bundle.tN "UNASSIGNED_STACK" Bundle.steD (fun q => n0 ≤ q) U H ∧ vx_Zq Bundle.tN "SUPPRESSED_SENTINEL" Bundle.listD (fun q => n0 ≤ q) U H ∧ (∀ q ∈ yStrs, ∃ a, vk_R RX2 q.1 q.2 a U) ∧
  va_Z RJx4a65c "DEFAULTCAPACITY_EMPTY_ELEMENTDATA" "[Ljava/lang/Object;" (.ref tE) (fun q => n0 ≤ q) U H ∧ va_T (.object "java/lang/Object") tE 0 (fun _ => .null) (fun q => n0 ≤ q) U H ∧ va_Mi "[Ljava/lang/Object;" mO U ∧ yB U ∧ va_AO "java/lang/Object" U ∧ yAOA U ∧ yNS U

theorem yE.go {n0 tE mO : Nat} {s U : State} {H : Heap} {locs : List Loc} (h : yE n0 tE mO s s.heap) (hS : va_S (fun q => n0 ≤ q) s.heap H locs) (hW : s.WarmedH U.vm) (hU : U.heap = H) : yE n0 tE mO U U.heap := by
  obtain ⟨h1, h2, h3, h4, h5, h6, h7, h8, h9, h10⟩ := h
  rw [hU]
  exact ⟨vx_Zq.moved hW.alike (h1.kept hS.2.1), vx_Zq.moved hW.alike (h2.kept hS.2.1), fun q hq => by
    obtain ⟨a, ha⟩ := h3 q hq
    exact ⟨a, vk_R.warm hW ha⟩, va_Z.moved hW.alike (h4.kept hS.2.1), va_T.moved hW.alike (h5.kept hS.2.1), va_Mi.moved hW.alike h6, h7.warm hW, h8.moved hW.alike, h9.moved hW.alike, h10.warm hW⟩
theorem yE.calling {n0 tE mO : Nat} {U : State} (g : JFrame) (mk : MethodId) (a : Array Value) (h : yE n0 tE mO U U.heap) : yE n0 tE mO (U.calling g mk a) (U.calling g mk a).heap := by
  obtain ⟨h1, h2, h3, h4, h5, h6, h7, h8, h9, h10⟩ := h
  have hv : U.vm.Alike (U.calling g mk a).vm := Vm.Alike.refl U.vm
  exact ⟨vx_Zq.moved hv h1, vx_Zq.moved hv h2, fun q hq => by
    obtain ⟨x, hx⟩ := h3 q hq
    exact ⟨x, vk_R.same rfl hx⟩, va_Z.moved hv h4, va_T.moved hv h5, va_Mi.moved hv h6, h7.calling g mk a, h8.moved hv, h9.moved hv, yNS.warm (U := U.calling g mk a) (State.WarmedH.refl U) h10⟩
/-- the launch's own numbers: array classes, floor of the heap, two addresses, the classes of the objects -/
abbrev yL : Type := va_G × (Nat → ClassId) × Nat × Nat × Nat
def yP (Z : yL) (al : yAl) (sh : ySh) (S : yS) (U : State) : Prop := yW Z.1 Z.2.2.1 al sh S U.heap ∧ va_K Z.1 vwCl (yT Z.2.1) U ∧ yE Z.2.2.1 Z.2.2.2.1 Z.2.2.2.2 U U.heap
theorem yP.calling {Z : yL} {al : yAl} {sh : ySh} {S : yS} {U : State} (g : JFrame) (mk : MethodId) (a : Array Value) (h : yP Z al sh S U) : yP Z al sh S (U.calling g mk a) :=
  ⟨h.1, va_K.moved (u := U) (U := U.calling g mk a) (Vm.Alike.refl U.vm) h.2.1, h.2.2.calling g mk a⟩
/-- what a method's body stands on -/
def Cx (p : Program) (s : State) (m : MethodId) (args : Array Value) (c : Code) (cc : ByteArray) (nL : Nat) (own : String) (Ts : List Cond) (Z : yL) : Prop :=
  CallFix p m c cc nL s args Ts own ∧ va_K Z.1 vwCl (yT Z.2.1) s ∧ Z.2.2.1 ≤ s.heap.size ∧ yE Z.2.2.1 Z.2.2.2.1 Z.2.2.2.2 s s.heap
abbrev yF (Z : yL) : Nat → Prop := fun q => Z.2.2.1 ≤ q
/-- from any heap of this world, at pc, with these locals and this stack, the run comes to Q -/
def J (p : Program) (l : Launch) (e : Env) (R : Room) (s : State) (m : MethodId) (args : Array Value) (below : List Frame) (meth : Method) (c : Code) (nL : Nat) (Z : yL) (cells slots : Nat) (Q : State → Prop) (al : yAl) (sh : ySh) (S : yS) (pc : Nat) (lv : List (Nat × Value)) (st : List Value) : Prop :=
  ∀ (H : Heap) (locs : List Loc) (ls : Array Slot), yW Z.1 Z.2.2.1 al sh S H → va_S (yF Z) s.heap H locs → lv_has ls nL lv → W p l e R s m args below meth c H locs cells slots Q (F0 m pc ls st)
/-- the same with an exception of class E thrown at pc -/
def JX (p : Program) (l : Launch) (e : Env) (R : Room) (s : State) (m : MethodId) (args : Array Value) (below : List Frame) (meth : Method) (c : Code) (nL : Nat) (Z : yL) (cells slots : Nat) (Q : State → Prop) (al : yAl) (sh : ySh) (S : yS) (pc : Nat) (lv : List (Nat × Value)) (E : String) : Prop :=
  ∀ (H : Heap) (locs : List Loc) (ls : Array Slot) (q : Addr) (ce : Cell) (st : List Value), yW Z.1 Z.2.2.1 al sh S H → va_S (yF Z) s.heap H locs → lv_has ls nL lv → H[q]? = some ce → ce.vm = .none → s.vm.findClass E = some ce.cls → vx_W p l e R s m args below meth c H locs cells slots Q (F0 m pc ls st) q
abbrev yPost : Type := Option Value → yAl → ySh → yS → Prop
def Qn (Z : yL) (post : yPost) : Array Value → State → Outcome → State → Prop := fun _ st o t => (∃ v al' sh' S', o = .returned v ∧ post v al' sh' S' ∧ yW Z.1 Z.2.2.1 al' sh' S' t.heap) ∧ va_F (yF Z) st t
def Qx (Z : yL) (px : String → Prop) (al : yAl) (sh : ySh) (S : yS) : String → State → State → Prop := fun E st t => px E ∧ yW Z.1 Z.2.2.1 al sh S t.heap ∧ va_F (yF Z) st t
def Pn (Z : yL) (av : List Value) (al : yAl) (sh : ySh) (S : yS) : Array Value → State → Prop := fun a U => a = av.toArray ∧ yP Z al sh S U
/-- a contract: y, called with av in the world al sh S, returns with post -/
def Ct (l : Launch) (y : MethodName) (ws : List Cond) (rm : Room) (mc ms : Nat) (Z : yL) (av : List Value) (al : yAl) (sh : ySh) (S : yS) (post : yPost) : Prop :=
  Met l y ws rm (Pn Z av al sh S) (Qn Z post) mc ms (yF Z)
/-- returns with post, or throws a class of px with the world as it was -/
def Cq (l : Launch) (y : MethodName) (ws : List Cond) (rm : Room) (mc ms : Nat) (Z : yL) (av : List Value) (al : yAl) (sh : ySh) (S : yS) (post : yPost) (px : String → Prop) : Prop :=
  vx_Met l y ws rm (Pn Z av al sh S) (Qn Z post) (Qx Z px al sh S) mc ms (yF Z)
/-- the answer v, and nothing but numbers changes -/
def yR (al : yAl) (sh : ySh) (v : Option Value) (S : yS) : yPost := fun v' al' sh' S' => v' = v ∧ al' = al ∧ sh' = sh ∧ S' = S
theorem Pn.blind {Z : yL} {av : List Value} {al : yAl} {sh : ySh} {S : yS} : FrameBlind (Pn Z av al sh S) := fun _ _ g mk h => ⟨h.1, h.2.calling g mk _⟩
section JR
variable {p : Program} {l : Launch} {e : Env} {R : Room} {s : State} {m : MethodId} {args : Array Value} {below : List Frame} {meth : Method} {c : Code} {cells slots : Nat} {Q : State → Prop} {cc : ByteArray} {nL pc pc' : Nat} {own : String} {Ts : List Cond} {Z : yL} {al : yAl} {sh : ySh} {S : yS} {lv lv' : List (Nat × Value)} {st rest : List Value}
theorem J.widen {k n : Nat} (h1 : cells ≤ k) (h2 : slots ≤ n) (kk : J p l e R s m args below meth c nL Z k n Q al sh S pc lv st) : J p l e R s m args below meth c nL Z cells slots Q al sh S pc lv st := fun H locs ls hW hS hl => W.widen h1 h2 (kk H locs ls hW hS hl)
theorem J.sub (ks : List Nat) (hl : lv_pick lv ks = lv') (kk : J p l e R s m args below meth c nL Z cells slots Q al sh S pc lv' st) : J p l e R s m args below meth c nL Z cells slots Q al sh S pc lv st := fun H locs ls hW hS h => kk H locs ls hW hS (lv_sub h ks hl)
theorem Pn.at (cx : Cx p s m args c cc nL own Ts Z) {av : List Value} {H : Heap} {locs : List Loc} (hW : yW Z.1 Z.2.2.1 al sh S H) (hS : va_S (yF Z) s.heap H locs) : ∀ U : State, U.heap = H → s.WarmedH U.vm → Pn Z av al sh S av.toArray U := fun U hU hw =>
  ⟨rfl, by rw [hU]; exact hW, va_K.moved hw.alike cx.2.1, cx.2.2.2.go hS hw hU⟩
theorem yP.at (cx : Cx p s m args c cc nL own Ts Z) {H : Heap} {locs : List Loc} (hW : yW Z.1 Z.2.2.1 al sh S H) (hS : va_S (yF Z) s.heap H locs) (U : State) (hU : U.heap = H) (hw : s.WarmedH U.vm) : yP Z al sh S U := ⟨by rw [hU]; exact hW, va_K.moved hw.alike cx.2.1, cx.2.2.2.go hS hw hU⟩
/-- behind a call that returns -/
theorem J.behind {mc ms : Nat} {post : yPost} {a : Array Value} (hp : pc + 3 = pc') {st0 : List Value}
    (hr : ∀ (H : Heap) (locs : List Loc) (ls : Array Slot), yW Z.1 Z.2.2.1 al sh S H → va_S (yF Z) s.heap H locs → lv_has ls nL lv → va_Run p l e R s m args below meth c H locs cells slots mc ms (F0 m pc ls st0) rest (Qn Z post a) (yF Z))
    (kk : ∀ v al' sh' S', post v al' sh' S' → J p l e R s m args below meth c nL Z (cells + mc) (slots + ms) Q al' sh' S' pc' lv (v.toList ++ rest)) : J p l e R s m args below meth c nL Z cells slots Q al sh S pc lv st0 := by
  subst hp
  intro H locs ls hW hS hl T hT X
  obtain ⟨v, st₀, t, T', L, h0, X', hL, e1, e2, ⟨⟨v', al', sh', S', ho, hpost, hP⟩, hF⟩, st⟩ := hr H locs ls hW hS hl T hT X
  cases ho
  obtain ⟨k1, k2, k3⟩ := vx_keep h0 e1 hS (fun _ _ h => h) (fun _ h => h) hL hF
  obtain ⟨t2, a1, b1⟩ := kk v al' sh' S' hpost T'.heap (locs ++ L) ls (by rw [e1]; exact hP) k3 hl T' rfl X'
  exact ⟨t2, st t2 a1, b1⟩
theorem J.behindX {mc ms : Nat} {post : yPost} {px : String → Prop} {a : Array Value} (hp : pc + 3 = pc') {st0 : List Value}
    (hr : ∀ (H : Heap) (locs : List Loc) (ls : Array Slot), yW Z.1 Z.2.2.1 al sh S H → va_S (yF Z) s.heap H locs → lv_has ls nL lv → vx_Run p l e R s m args below meth c H locs cells slots mc ms (F0 m pc ls st0) rest (Qn Z post a) (Qx Z px al sh S) (yF Z))
    (kx : ∀ E, px E → JX p l e R s m args below meth c nL Z (cells + mc) (slots + ms) Q al sh S pc lv E)
    (kk : ∀ v al' sh' S', post v al' sh' S' → J p l e R s m args below meth c nL Z (cells + mc) (slots + ms) Q al' sh' S' pc' lv (v.toList ++ rest)) : J p l e R s m args below meth c nL Z cells slots Q al sh S pc lv st0 := by
  subst hp
  intro H locs ls hW hS hl T hT X
  rcases hr H locs ls hW hS hl T hT X with ⟨v, st₀, t, T', L, h0, X', hL, e1, e2, ⟨⟨v', al', sh', S', ho, hpost, hP⟩, hF⟩, st⟩ | ⟨q, st₀, t, T', L, E, ce, h0, X', hL, e1, e2, ⟨hpx, hP, hF⟩, hce, hcv, hcl, st⟩
  · cases ho
    obtain ⟨k1, k2, k3⟩ := vx_keep h0 e1 hS (fun _ _ h => h) (fun _ h => h) hL hF
    obtain ⟨t2, a1, b1⟩ := kk v al' sh' S' hpost T'.heap (locs ++ L) ls (by rw [e1]; exact hP) k3 hl T' rfl X'
    exact ⟨t2, st t2 a1, b1⟩
  · obtain ⟨k1, k2, k3⟩ := vx_keep h0 e1 hS (fun _ _ h => h) (fun _ h => h) hL hF
    obtain ⟨t2, a1, b1⟩ := kx E hpx T'.heap (locs ++ L) ls q ce rest (by rw [e1]; exact hP) k3 hl (by rw [e1]; exact hce) hcv hcl T' rfl X'
    exact ⟨t2, st.trans a1, b1⟩
/-- an object of the world, as a receiver -/
theorem yW.recv (cx : Cx p s m args c cc nL own Ts Z) {H : Heap} (hW : yW Z.1 Z.2.2.1 al sh S H) {a b ci : Nat} {tg : yTg} {r : vw_C} (hs : sh a b = some (.inl (ci, tg))) (hc : vwCl[ci]? = some r) : ∃ cell : Cell, H[al a b]? = some cell ∧ cell.vm.isStatics = false ∧ s.vm.findClass r.1 = some cell.cls := by
  obtain ⟨r', h1, cell, h2, h3, h4, -⟩ := (hW.2.1 a b _ hs).2
  cases h1.symm.trans hc
  exact ⟨cell, h2, by rw [h4]; rfl, by rw [h3]; exact (cx.2.1.1 ci r hc).2.1⟩
section CALLS
variable {y : MethodName} {ws ws' : List Cond} {rm : Room} {mc ms idx n maxL : Nat} {bytes : ByteArray} {ret : Option FieldType} {C : String} {b : Addr} {As : List Value} {post : yPost} {px : String → Prop} {hh : List (Nat × Nat × Nat × Nat)}
theorem j_callV (cx : Cx p s m args c cc nL own Ts Z) (hM : Ct l y ws rm mc ms Z (.ref b :: As) al sh S post) (hT : GoodIn Ts (wsV own idx C y ws)) (hw : ws = Cond.code y bytes maxL ret :: ws') (hrc : rm.cells = mc) (hrs : rm.slots = ms)
    (hd : y.cls = C ∧ y.cls ≠ "java/lang/invoke/MethodHandle" ∧ y.cls ≠ "java/lang/invoke/VarHandle" ∧ (parseMethodDescriptor y.desc).map (fun d => d.parameters.length) = some As.length) (hR : rm.frames + 1 ≤ R.frames ∧ 8 + (maxL + 11) + rm.locals ≤ R.locals)
    {k1 k2 ci : Nat} {tg : yTg} {r : vw_C} (hs : sh k1 k2 = some (.inl (ci, tg))) (hc : vwCl[ci]? = some r) (hrC : r.1 = C) (hb : b = al k1 k2) {st0 : List Value} (hst : st0 = As.reverse ++ .ref b :: rest) (hsum : (rest.map fun v => v.category).sum ≤ 8) (d : decode cc pc = .ok (.invokevirtual idx, 3)) (hf : cells + mc ≤ R.cells ∧ slots + ms ≤ R.slots) (hp : pc + 3 = pc')
    (kk : ∀ v al' sh' S', post v al' sh' S' → J p l e R s m args below meth c nL Z (cells + mc) (slots + ms) Q al' sh' S' pc' lv (v.toList ++ rest)) : J p l e R s m args below meth c nL Z cells slots Q al sh S pc lv st0 := by
  subst hst
  refine J.behind (a := (Value.ref b :: As).toArray) hp (fun H locs ls hW hS hl => ?_) kk
  exact va_runV cx.1 hM (cwV As.length cx.1.2.2.2.2 hT hw hrc hrs hd hR) ⟨Pn.blind, by rw [hb]; have := hW.recv cx hs hc; rw [hrC] at this; exact this, Pn.at cx hW hS⟩ rfl rfl hl.1 rfl (lv_room hsum) d hf
theorem j_callVx (cx : Cx p s m args c cc nL own Ts Z) (hM : Cq l y ws rm mc ms Z (.ref b :: As) al sh S post px) (hT : GoodIn Ts (wsV own idx C y ws)) (hw : ws = Cond.code y bytes maxL ret :: ws') (hrc : rm.cells = mc) (hrs : rm.slots = ms)
    (hd : y.cls = C ∧ y.cls ≠ "java/lang/invoke/MethodHandle" ∧ y.cls ≠ "java/lang/invoke/VarHandle" ∧ (parseMethodDescriptor y.desc).map (fun d => d.parameters.length) = some As.length) (hR : rm.frames + 1 ≤ R.frames ∧ 8 + (maxL + 11) + rm.locals ≤ R.locals)
    {k1 k2 ci : Nat} {tg : yTg} {r : vw_C} (hs : sh k1 k2 = some (.inl (ci, tg))) (hc : vwCl[ci]? = some r) (hrC : r.1 = C) (hb : b = al k1 k2) {st0 : List Value} (hst : st0 = As.reverse ++ .ref b :: rest) (hsum : (rest.map fun v => v.category).sum ≤ 8) (d : decode cc pc = .ok (.invokevirtual idx, 3)) (hf : cells + mc ≤ R.cells ∧ slots + ms ≤ R.slots) (hp : pc + 3 = pc')
    (kx : ∀ E, px E → JX p l e R s m args below meth c nL Z (cells + mc) (slots + ms) Q al sh S pc lv E)
    (kk : ∀ v al' sh' S', post v al' sh' S' → J p l e R s m args below meth c nL Z (cells + mc) (slots + ms) Q al' sh' S' pc' lv (v.toList ++ rest)) : J p l e R s m args below meth c nL Z cells slots Q al sh S pc lv st0 := by
  subst hst
  refine J.behindX (a := (Value.ref b :: As).toArray) hp (fun H locs ls hW hS hl => ?_) kx kk
  exact vx_runV cx.1 hM (cwV As.length cx.1.2.2.2.2 hT hw hrc hrs hd hR) ⟨Pn.blind, by rw [hb]; have := hW.recv cx hs hc; rw [hrC] at this; exact this, Pn.at cx hW hS⟩ rfl rfl hl.1 rfl (lv_room hsum) d hf
theorem j_callS (cx : Cx p s m args c cc nL own Ts Z) (hM : Ct l y ws rm mc ms Z As al sh S post) (hT : GoodIn Ts (va_wsS own idx y ws)) (hw : ws = Cond.code y bytes maxL ret :: ws') (hrc : rm.cells = mc) (hrs : rm.slots = ms)
    (hd : y.cls ≠ "java/lang/invoke/MethodHandle" ∧ y.cls ≠ "java/lang/invoke/VarHandle" ∧ (parseMethodDescriptor y.desc).map (fun d => d.parameters.length) = some As.length) (hR : rm.frames + 1 ≤ R.frames ∧ 8 + (maxL + 11) + rm.locals ≤ R.locals)
    {st0 : List Value} (hst : st0 = As.reverse ++ rest) (hsum : (rest.map fun v => v.category).sum ≤ 8) (d : decode cc pc = .ok (.invokestatic idx, 3)) (hf : cells + mc ≤ R.cells ∧ slots + ms ≤ R.slots) (hp : pc + 3 = pc')
    (kk : ∀ v al' sh' S', post v al' sh' S' → J p l e R s m args below meth c nL Z (cells + mc) (slots + ms) Q al' sh' S' pc' lv (v.toList ++ rest)) : J p l e R s m args below meth c nL Z cells slots Q al sh S pc lv st0 := by
  subst hst
  refine J.behind (a := As.toArray) hp (fun H locs ls hW hS hl => ?_) kk
  exact va_runS cx.1 hM (va_cwS As.length cx.1.2.2.2.2 hT hw hrc hrs hd hR) ⟨Pn.blind, Pn.at cx hW hS⟩ rfl rfl hl.1 rfl (lv_room hsum) d hf
theorem j_callSx (cx : Cx p s m args c cc nL own Ts Z) (hM : Cq l y ws rm mc ms Z As al sh S post px) (hT : GoodIn Ts (va_wsS own idx y ws)) (hw : ws = Cond.code y bytes maxL ret :: ws') (hrc : rm.cells = mc) (hrs : rm.slots = ms)
    (hd : y.cls ≠ "java/lang/invoke/MethodHandle" ∧ y.cls ≠ "java/lang/invoke/VarHandle" ∧ (parseMethodDescriptor y.desc).map (fun d => d.parameters.length) = some As.length) (hR : rm.frames + 1 ≤ R.frames ∧ 8 + (maxL + 11) + rm.locals ≤ R.locals)
    {st0 : List Value} (hst : st0 = As.reverse ++ rest) (hsum : (rest.map fun v => v.category).sum ≤ 8) (d : decode cc pc = .ok (.invokestatic idx, 3)) (hf : cells + mc ≤ R.cells ∧ slots + ms ≤ R.slots) (hp : pc + 3 = pc')
    (kx : ∀ E, px E → JX p l e R s m args below meth c nL Z (cells + mc) (slots + ms) Q al sh S pc lv E)
    (kk : ∀ v al' sh' S', post v al' sh' S' → J p l e R s m args below meth c nL Z (cells + mc) (slots + ms) Q al' sh' S' pc' lv (v.toList ++ rest)) : J p l e R s m args below meth c nL Z cells slots Q al sh S pc lv st0 := by
  subst hst
  refine J.behindX (a := As.toArray) hp (fun H locs ls hW hS hl => ?_) kx kk
  exact vx_runS cx.1 hM (va_cwS As.length cx.1.2.2.2.2 hT hw hrc hrs hd hR) ⟨Pn.blind, Pn.at cx hW hS⟩ rfl rfl hl.1 rfl (lv_room hsum) d hf
theorem j_callSW (cx : Cx p s m args c cc nL own Ts Z) (hM : Ct l y ws rm mc ms Z As al sh S post) (hT : GoodIn Ts (va_wsS own idx y ws)) (hw : ws = Cond.codeWith y bytes maxL ret hh :: ws') (hrc : rm.cells = mc) (hrs : rm.slots = ms)
    (hd : y.cls ≠ "java/lang/invoke/MethodHandle" ∧ y.cls ≠ "java/lang/invoke/VarHandle" ∧ (parseMethodDescriptor y.desc).map (fun d => d.parameters.length) = some As.length) (hR : rm.frames + 1 ≤ R.frames ∧ 8 + (maxL + 11) + rm.locals ≤ R.locals)
    {st0 : List Value} (hst : st0 = As.reverse ++ rest) (hsum : (rest.map fun v => v.category).sum ≤ 8) (d : decode cc pc = .ok (.invokestatic idx, 3)) (hf : cells + mc ≤ R.cells ∧ slots + ms ≤ R.slots) (hp : pc + 3 = pc')
    (kk : ∀ v al' sh' S', post v al' sh' S' → J p l e R s m args below meth c nL Z (cells + mc) (slots + ms) Q al' sh' S' pc' lv (v.toList ++ rest)) : J p l e R s m args below meth c nL Z cells slots Q al sh S pc lv st0 := by
  subst hst
  refine J.behind (a := As.toArray) hp (fun H locs ls hW hS hl => ?_) kk
  exact vx_runSW cx.1 hM (vx_cwSW As.length cx.1.2.2.2.2 hT hw hrc hrs hd hR) ⟨Pn.blind, Pn.at cx hW hS⟩ rfl rfl hl.1 rfl (lv_room hsum) d hf
theorem j_callI (cx : Cx p s m args c cc nL own Ts Z) (hM : Ct l y ws rm mc ms Z (.ref b :: As) al sh S post) (hT : GoodIn Ts ws) (hw : ws = Cond.code y bytes maxL none :: ws') (hrc : rm.cells = mc) (hrs : rm.slots = ms)
    (hini : Cond.initialized y.cls ∈ Ts) (hlk : Cond.methodLink own idx y ∈ Ts) (hin : Cond.instanceMethod y ∈ Ts) (hy1 : y.name = "<init>")
    (hd : y.cls ≠ "java/lang/invoke/MethodHandle" ∧ y.cls ≠ "java/lang/invoke/VarHandle" ∧ (parseMethodDescriptor y.desc).map (fun d => d.parameters.length) = some As.length) (hR : rm.frames + 1 ≤ R.frames ∧ 8 + (maxL + 11) + rm.locals ≤ R.locals)
    {st0 : List Value} (hst : st0 = As.reverse ++ .ref b :: rest) (hsum : (rest.map fun v => v.category).sum ≤ 8) (d : decode cc pc = .ok (.invokespecial idx, 3)) (hf : cells + mc ≤ R.cells ∧ slots + ms ≤ R.slots) (hp : pc + 3 = pc')
    (kk : ∀ v al' sh' S', post v al' sh' S' → J p l e R s m args below meth c nL Z (cells + mc) (slots + ms) Q al' sh' S' pc' lv (v.toList ++ rest)) : J p l e R s m args below meth c nL Z cells slots Q al sh S pc lv st0 := by
  subst hst
  refine J.behind (a := (Value.ref b :: As).toArray) hp (fun H locs ls hW hS hl => ?_) kk
  exact va_runI cx.1 hM (cwI As.length cx.1.2.2.2.2 hT hw hrc hrs (cx.1.2.2.2.2 _ hini) (cx.1.2.2.2.2 _ hlk) (cx.1.2.2.2.2 _ hin) hy1 hd hR) ⟨Pn.blind, Pn.at cx hW hS⟩ rfl rfl hl.1 rfl (lv_room hsum) d hf
end CALLS
section ENDS
variable {mc ms : Nat} {post : yPost} {px : String → Prop} {al0 : yAl} {sh0 : ySh} {S0 : yS}
theorem yQ.at {H : Heap} {locs : List Loc} {a : Array Value} {v : Option Value} (hW : yW Z.1 Z.2.2.1 al sh S H) (hS : va_S (yF Z) s.heap H locs) (hp : post v al sh S) : ∀ t : State, t.heap = H → s.WarmedH t.vm → Qn Z post a s (.returned v) t := fun t ht hw =>
  ⟨⟨v, al, sh, S, rfl, hp, by rw [ht]; exact hW⟩, hS.F ht⟩
theorem j_iret (cx : Cx p s m args c cc nL own Ts Z) (hlk : meth.locks = false) {ty : FieldType} (hr : meth.sig.returnType = some ty) {x : Int32} (hn : narrow ty (.int x) = .int x) (hc : cells ≤ mc) (hs : slots ≤ ms) (d : decode cc pc = .ok (.ireturn, 1)) (hp : post (some (.int x)) al sh S) :
    J p l e R s m args below meth c nL Z cells slots (MQ below (Qn Z post) args s mc ms (yF Z)) al sh S pc lv [.int x] := fun H locs ls hW hS hl =>
  W.widen hc hs (W.zret (ty := ty) cx.1.1 cx.1.2.1 hr hn (yQ.at hW hS hp) hS.2.2 d hlk)
theorem j_vret (cx : Cx p s m args c cc nL own Ts Z) (hlk : meth.locks = false) (hr : meth.sig.returnType = none) (hc : cells ≤ mc) (hs : slots ≤ ms) (d : decode cc pc = .ok (.return_, 1)) (hp : post none al sh S) :
    J p l e R s m args below meth c nL Z cells slots (MQ below (Qn Z post) args s mc ms (yF Z)) al sh S pc lv [] := fun H locs ls hW hS hl =>
  W.widen hc hs (W.vret cx.1.1 cx.1.2.1 hr (yQ.at hW hS hp) hS.2.2 d hlk)
theorem j_aret (cx : Cx p s m args c cc nL own Ts Z) (hlk : meth.locks = false) {ty : FieldType} (hr : meth.sig.returnType = some ty) (hty : (∃ n, ty = .object n) ∨ ∃ t, ty = .array t) {a : Addr} (hc : cells ≤ mc) (hs : slots ≤ ms) (d : decode cc pc = .ok (.areturn, 1)) (hp : post (some (.ref a)) al sh S) :
    J p l e R s m args below meth c nL Z cells slots (MQ below (Qn Z post) args s mc ms (yF Z)) al sh S pc lv [.ref a] := fun H locs ls hW hS hl =>
  W.widen hc hs (W.aret cx.1.1 cx.1.2.1 hr hty (Or.inr ⟨a, rfl⟩) (yQ.at hW hS hp) hS.2.2 d hlk)
theorem j_fret (cx : Cx p s m args c cc nL own Ts Z) (hlk : meth.locks = false) (hr : meth.sig.returnType = some .float) {x : UInt32} (hc : cells ≤ mc) (hs : slots ≤ ms) (d : decode cc pc = .ok (.freturn, 1)) (hp : post (some (.float x)) al sh S) :
    J p l e R s m args below meth c nL Z cells slots (MQ below (Qn Z post) args s mc ms (yF Z)) al sh S pc lv [.float x] := fun H locs ls hW hS hl =>
  W.widen hc hs (W.fret cx.1.1 cx.1.2.1 hr (yQ.at hW hS hp) hS.2.2 d hlk)
theorem j_dret (cx : Cx p s m args c cc nL own Ts Z) (hlk : meth.locks = false) (hr : meth.sig.returnType = some .double) {x : UInt64} (hc : cells ≤ mc) (hs : slots ≤ ms) (d : decode cc pc = .ok (.dreturn, 1)) (hp : post (some (.double x)) al sh S) :
    J p l e R s m args below meth c nL Z cells slots (MQ below (Qn Z post) args s mc ms (yF Z)) al sh S pc lv [.double x] := fun H locs ls hW hS hl =>
  W.widen hc hs (W.dret cx.1.1 cx.1.2.1 hr (yQ.at hW hS hp) hS.2.2 d hlk)
theorem J.ret (XC : String → State → State → Prop) (kk : J p l e R s m args below meth c nL Z cells slots (MQ below (Qn Z post) args s mc ms (yF Z)) al sh S pc lv st) : J p l e R s m args below meth c nL Z cells slots (vx_MQ below (Qn Z post) XC args s mc ms (yF Z)) al sh S pc lv st := fun H locs ls hW hS hl => vx_ret (kk H locs ls hW hS hl)
/-- an exception that this method doesn't catch -/
theorem jx_out (hlk : meth.locks = false) (htb : ∀ x ∈ c.exceptionTable.toList, False) {E : String} (hc : cells ≤ mc) (hs : slots ≤ ms) (hp : px E) :
    JX p l e R s m args below meth c nL Z cells slots (vx_MQ below (Qn Z post) (Qx Z px al sh S) args s mc ms (yF Z)) al sh S pc lv E := by
  intro H locs ls q ce st hW hS hl h1 h2 h3
  refine vx_widen hc hs ?_
  exact vx_out (fun x hx => (htb x hx).elim) hlk h1 h2 h3 (fun t ht _ => ⟨hp, by rw [ht]; exact hW, hS.F ht⟩) hS.2.2 (Nat.le_refl _) (Nat.le_refl _)
end ENDS
end JR
