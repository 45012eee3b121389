/-- one more key over a cell that is there -/
theorem yW.key {G : va_G} {n0 : Nat} {al : yAl} {sh : ySh} {S S' : yS} {H : Heap} {a b q : Nat} {x' : yShp} (h : yW G n0 al sh S H) (hx : sh a b = none) (ha : a ≠ 99) (hlt : ∀ c d y, sh c d = some y → al c d < q) (hq : n0 ≤ q)
    (hS : ∀ c d j, ¬ (c = a ∧ d = b) → S' c d j = S c d j) (hn : yAt G (alp al a b q) S' a b x' H) (hcl : ∀ ci tg j k, x' = .inl (ci, tg) → tg j ≠ some (some k)) : yW G n0 (alp al a b q) (shp sh a b x') S' H ∧ ∀ c d y, shp sh a b x' c d = some y → alp al a b q c d < q + 1 := by
  obtain ⟨h1, h2, h3, h4⟩ := h
  have key : ∀ c d y, ¬ (c = a ∧ d = b) → shp sh a b x' c d = some y → sh c d = some y ∧ al c d < q := fun c d y e hy => by
    rw [shp_ne _ _ e] at hy
    exact ⟨hy, hlt c d y hy⟩
  refine ⟨⟨h1, fun c d y hy => ?_, fun c d c' d' y y' hy hy' he => ?_, fun c d ci tg j k hy hj => ?_⟩, fun c d y hy => ?_⟩
  · by_cases e : c = a ∧ d = b
    · obtain ⟨rfl, rfl⟩ := e
      rw [shp_self] at hy
      cases hy
      exact ⟨by rw [alp_self]; exact hq, hn⟩
    · rw [shp_ne _ _ e] at hy
      obtain ⟨g1, g2⟩ := h2 c d y hy
      refine ⟨by rw [alp_ne _ _ e]; exact g1, g2.keep rfl (alp_ne _ _ e) (fun j => hS c d j e) (fun ci tg j k hi hj => ?_)⟩
      refine alp_ne _ _ (fun q => ?_)
      subst hi
      rcases h4 c d ci tg j k hy hj with q1 | q1
      · exact q1 (by rw [q.1, q.2]; exact hx)
      · exact ha (q.1 ▸ q1)
  · by_cases e1 : c = a ∧ d = b <;> by_cases e2 : c' = a ∧ d' = b
    · exact ⟨e1.1.trans e2.1.symm, e1.2.trans e2.2.symm⟩
    · obtain ⟨-, g2⟩ := key c' d' y' e2 hy'
      rw [alp_ne _ _ e2, e1.1, e1.2, alp_self] at he
      omega
    · obtain ⟨-, g2⟩ := key c d y e1 hy
      rw [alp_ne _ _ e1, e2.1, e2.2, alp_self] at he
      omega
    · obtain ⟨g1, -⟩ := key c d y e1 hy
      obtain ⟨g2, -⟩ := key c' d' y' e2 hy'
      rw [alp_ne _ _ e1, alp_ne _ _ e2] at he
      exact h3 c d c' d' y y' g1 g2 he
  · by_cases e : c = a ∧ d = b
    · obtain ⟨rfl, rfl⟩ := e
      rw [shp_self] at hy
      exact absurd hj (hcl ci tg j k (Option.some.inj hy))
    · rw [shp_ne _ _ e] at hy
      rcases h4 c d ci tg j k hy hj with q | q
      · left
        by_cases e2 : k.1 = a ∧ k.2 = b
        · rw [e2.1, e2.2, shp_self]
          exact fun q => by cases q
        · rw [shp_ne _ _ e2]
          exact q
      · exact Or.inr q
  · by_cases e : c = a ∧ d = b
    · obtain ⟨rfl, rfl⟩ := e
      rw [alp_self]; omega
    · have := (key c d y e hy).2
      rw [alp_ne _ _ e]; omega
theorem y_outer (c : ClassId) (N h0 : Nat) : ∀ i : Nat, Jvm.Free.Multi.outerC c N h0 i = arrV c N (fun j => va_rf (if j < i then some (h0 + 1 + j) else none))
  | 0 => by
    show ({ cls := c, slots := Array.replicate N .null, vm := .none } : Cell) = _
    rw [arrV_new]
    refine congrArg (arrV c N) (funext fun j => ?_)
    simp [va_rf]
  | i + 1 => by
    show (Jvm.Free.Multi.outerC c N h0 i).setSlot i (.ref (h0 + 1 + i)) = _
    rw [y_outer c N h0 i, arrV_store]
    refine congrArg (arrV c N) (funext fun j => ?_)
    by_cases e : j = i
    · subst e
      simp [updV, va_rf]
    · by_cases h : j < i
      · simp [updV, e, h, Nat.lt_succ_of_lt h]
      · simp [updV, e, h, show ¬ j < i + 1 by omega]
abbrev y5 (Z : yL) (q : Nat) : yShp := .inr (.inr (Z.2.1 5, (4, .inr (.inr (.inr (.inr (fun i => if i < 4 then some (q + 1 + i) else none)))))))
abbrev y4 (Z : yL) : yShp := .inr (.inl (Z.2.1 0, 4))
def al5 (al : yAl) (q : Nat) : yAl := alp (alp (alp (alp (alp al 7 0 q) 8 0 (q + 1)) 8 1 (q + 1 + 1)) 8 2 (q + 1 + 1 + 1)) 8 3 (q + 1 + 1 + 1 + 1)
def sh5 (Z : yL) (sh : ySh) (q : Nat) : ySh := shp (shp (shp (shp (shp sh 7 0 (y5 Z q)) 8 0 (y4 Z)) 8 1 (y4 Z)) 8 2 (y4 Z)) 8 3 (y4 Z)
def S5 (S : yS) : yS := szero (szero (szero (szero S 8 0) 8 1) 8 2) 8 3
section JMNA
variable {p : Program} {l : Launch} {e : Env} {R : Room} {s : State} {m : MethodId} {args : Array Value} {below : List Frame} {meth : Method} {c : Code} {cells slots : Nat} {Q : State → Prop} {cc : ByteArray} {nL pc pc' : Nat} {own : String} {Ts : List Cond} {Z : yL} {al : yAl} {sh : ySh} {S : yS} {lv : List (Nat × Value)} {st : List Value}
theorem j_mna (cx : Cx p s m args c cc nL own Ts Z) {idx : Nat} (h7 : sh 7 0 = none) (h8 : ∀ d, sh 8 d = none) (hcl : Cond.classLink own idx "[[I" ∈ Ts) (harr : Cond.arrayClass .int ∈ Ts) (hcells : cells + 5 ≤ R.cells) (hslots : slots + 20 ≤ R.slots) (d : decode cc pc = .ok (.multianewarray idx 2, 4)) (hp : pc + 4 = pc')
    (k : ∀ q : Nat, J p l e R s m args below meth c nL Z (cells + 1 + 4) (slots + 4 + 16) Q (al5 al q) (sh5 Z sh q) (S5 S) pc' lv (.ref q :: st)) : J p l e R s m args below meth c nL Z cells slots Q al sh S pc lv (.int 4 :: .int 4 :: st) := by
  subst hp
  intro H locs ls hW hS hl T hT Xs
  obtain ⟨vm₁, cA, comp, -, fA, fC, hO, -, X', step⟩ := Xs.multianewarray2F (ty := .int) cx.1.1 cx.1.2.2.2.1 (cx.1.2.2.2.2 _ hcl) cx.2.2.2.2.2.2.2.2.2.2.2.1 (cx.1.2.2.2.2 _ harr) (g := F0 m pc ls (.int 4 :: .int 4 :: st)) rfl (by rw [cx.1.2.1]; exact d) rfl (by decide) (by decide) (by decide) (by decide) (by decide) rfl rfl hcells hslots
  have ecA : cA = Z.2.1 5 := by
    have h9 : s.vm.findClass ("[" ++ (FieldType.array .int).toString) = some (Z.2.1 5) := (cx.2.1.2 5 (Z.2.1 5, .array .int) rfl).2
    exact Option.some.inj (fA.symm.trans h9)
  have ecC : comp = Z.2.1 0 := by
    have h9 : s.vm.findClass ("[" ++ (FieldType.int).toString) = some (Z.2.1 0) := (cx.2.1.2 0 (Z.2.1 0, .int) rfl).2
    exact Option.some.inj (fC.symm.trans h9)
  subst ecA ecC
  change Stand p l e R s m args below meth c (Jvm.Free.Multi.fill (T.setVm vm₁) (Z.2.1 5) (Z.2.1 0) 4 4 (.int 0) 4) locs (cells + 1 + 4) (slots + 4 + 16) at X'
  change ∀ target, Steps p.tables e below ((Jvm.Free.Multi.fill (T.setVm vm₁) (Z.2.1 5) (Z.2.1 0) 4 4 (.int 0) 4).setTop _) target → _ at step
  have hTh : (T.setVm vm₁).heap = H := hT
  obtain ⟨f1, f2, -, -⟩ := Jvm.Free.Multi.fill_facts (T.setVm vm₁) (Z.2.1 5) (Z.2.1 0) 4 4 (.int 0) 4
  have hold : ∀ x : Nat, x < H.size → (Jvm.Free.Multi.fill (T.setVm vm₁) (Z.2.1 5) (Z.2.1 0) 4 4 (.int 0) 4).heap[x]? = H[x]? := fun x hx => by
    have := Jvm.Free.Multi.fill_old (T.setVm vm₁) (Z.2.1 5) (Z.2.1 0) 4 4 (.int 0) (a := x) (by rw [hTh]; exact hx) 4
    rw [hTh] at this
    exact this
  have hin : ∀ j : Nat, j < 4 → (Jvm.Free.Multi.fill (T.setVm vm₁) (Z.2.1 5) (Z.2.1 0) 4 4 (.int 0) 4).heap[H.size + 1 + j]? = some (vp_cell (Z.2.1 0) (4, .inl (fun _ => 0))) := fun j hj => by
    have := Jvm.Free.Multi.fill_inner (T.setVm vm₁) (Z.2.1 5) (Z.2.1 0) 4 4 (.int 0) 4 j hj
    rw [hTh] at this
    rw [this, vp_cell_i, ← arrV_new]
    rfl
  generalize hF : Jvm.Free.Multi.fill (T.setVm vm₁) (Z.2.1 5) (Z.2.1 0) 4 4 (.int 0) 4 = F at X' step f1 f2 hold hin
  rw [hTh] at f1 f2
  rw [y_outer] at f2
  have hW0 : yW Z.1 Z.2.2.1 al sh S F.heap := hW.kept (by rw [f1]; omega) hold
  have hl0 : ∀ c d y, sh c d = some y → al c d < H.size := fun c d y hy => (hW.2.1 c d y hy).2.lt
  have hn0 : Z.2.2.1 ≤ H.size := hW.1
  obtain ⟨hW1, hl1⟩ := hW0.key (S' := S) (q := H.size) (x' := y5 Z H.size) h7 (by decide) hl0 hn0 (fun _ _ _ _ => rfl) (by show F.heap[alp al 7 0 H.size 7 0]? = some (vp_cell _ _); rw [alp_self, f2, vp_cell_q]) (fun _ _ _ _ e => by cases e)
  have hrow : ∀ (A : yAl) (S' : yS) (j i : Nat), j < 4 → i = H.size + 1 + j → (∀ z, S' 8 j z = 0) → yAt Z.1 (alp A 8 j i) S' 8 j (y4 Z) F.heap := fun A S' j i hj hi hz => by
    show F.heap[alp A 8 j i 8 j]? = some (vp_cell _ (_, .inl (S' 8 j)))
    rw [alp_self, hi, hin j hj, show S' 8 j = fun _ => 0 from funext hz]
  have zo : ∀ (T : yS) (b c d j : Nat), ¬ (c = 8 ∧ d = b) → szero T 8 b c d j = T c d j := fun T b c d j h => szero_o h
  obtain ⟨hW2, hl2⟩ := hW1.key (S' := szero S 8 0) (q := H.size + 1) (x' := y4 Z) (a := 8) (b := 0) ((shp_ne _ _ (by omega)).trans (h8 0)) (by decide) hl1 (by omega) (zo _ _) (hrow _ _ 0 _ (by omega) (by omega) (fun z => szero_i)) (fun _ _ _ _ e => by cases e)
  obtain ⟨hW3, hl3⟩ := hW2.key (S' := szero (szero S 8 0) 8 1) (q := H.size + 1 + 1) (x' := y4 Z) (a := 8) (b := 1) ((shp_ne _ _ (by omega)).trans ((shp_ne _ _ (by omega)).trans (h8 1))) (by decide) hl2 (by omega) (zo _ _) (hrow _ _ 1 _ (by omega) (by omega) (fun z => szero_i)) (fun _ _ _ _ e => by cases e)
  obtain ⟨hW4, hl4⟩ := hW3.key (S' := szero (szero (szero S 8 0) 8 1) 8 2) (q := H.size + 1 + 1 + 1) (x' := y4 Z) (a := 8) (b := 2) ((shp_ne _ _ (by omega)).trans ((shp_ne _ _ (by omega)).trans ((shp_ne _ _ (by omega)).trans (h8 2)))) (by decide) hl3 (by omega) (zo _ _) (hrow _ _ 2 _ (by omega) (by omega) (fun z => szero_i)) (fun _ _ _ _ e => by cases e)
  obtain ⟨hW5, -⟩ := hW4.key (S' := S5 S) (q := H.size + 1 + 1 + 1 + 1) (x' := y4 Z) (a := 8) (b := 3) ((shp_ne _ _ (by omega)).trans ((shp_ne _ _ (by omega)).trans ((shp_ne _ _ (by omega)).trans ((shp_ne _ _ (by omega)).trans (h8 3))))) (by decide) hl4 (by omega) (zo _ _) (hrow _ _ 3 _ (by omega) (by omega) (fun z => szero_i)) (fun _ _ _ _ e => by cases e)
  have hS2 : va_S (yF Z) s.heap F.heap locs := ⟨by rw [f1]; have := hS.1; omega, fun x g1 g2 => (hold x (Nat.lt_of_lt_of_le g1 hS.1)).trans (hS.2.1 x g1 g2), hS.2.2⟩
  obtain ⟨t, a1, b1⟩ := k H.size F.heap locs ls hW5 hS2 hl F rfl X'
  refine ⟨t, step t ?_, b1⟩
  have e1 : T.heap.size = H.size := by rw [hT]
  rw [e1]
  exact a1
end JMNA
