/-! THE BOOK'S WORLD: its object (40, 0); minutes (41, 0); owes: outer (42, 0), rows (43, d); of (44, 0); owner (45, 0), user (46, 0), began (47, 0), used (48, 0), end (49, 0); charged: outer (50, 0), rows (51, i). Its numbers: S 40 0 3 sessions, 10 printed, 11 pages, 12 all, 13 time. -/
def tgB : yTg := fun j => match j with
  | 0 => some (some (41, 0))
  | 1 => some (some (42, 0))
  | 2 => some (some (44, 0))
  | 4 => some (some (45, 0))
  | 5 => some (some (46, 0))
  | 6 => some (some (47, 0))
  | 7 => some (some (48, 0))
  | 8 => some (some (49, 0))
  | 9 => some (some (50, 0))
  | _ => none
def YK (Z : yL) (al : yAl) (sh : ySh) : Prop :=
  sh 40 0 = some (.inl (6, tgB)) ∧ sh 41 0 = yI Z 4 ∧ sh 44 0 = yI Z 10 ∧ sh 45 0 = yI Z 40 ∧ sh 46 0 = yI Z 40 ∧ sh 47 0 = yI Z 40 ∧ sh 48 0 = yI Z 40 ∧ sh 49 0 = yC Z 40 ∧
  (∃ f : Nat → Option Nat, sh 42 0 = some (.inr (.inr (Z.2.1 5, (4, .inr (.inr (.inr (.inr f))))))) ∧ ∀ d, d < 4 → f d = some (al 43 d)) ∧ (∀ d, d < 4 → sh 43 d = yI Z 4) ∧
  (∃ f : Nat → Option Nat, sh 50 0 = some (.inr (.inr (Z.2.1 5, (40, .inr (.inr (.inr (.inr f))))))) ∧ ∀ i, i < 40 → f i = some (al 51 i)) ∧ ∀ i, i < 40 → sh 51 i = yI Z 4
theorem YK.to {Z : yL} {al al' : yAl} {sh sh' : ySh} (h : YK Z al sh) (hk : ∀ a b, 40 ≤ a → al' a b = al a b ∧ sh' a b = sh a b) : YK Z al' sh' := by
  obtain ⟨a1, a2, a3, a4, a5, a6, a7, a8, ⟨f, a9, a9'⟩, a10, ⟨g, a11, a11'⟩, a12⟩ := h
  exact ⟨(hk _ _ (by decide)).2.trans a1, (hk _ _ (by decide)).2.trans a2, (hk _ _ (by decide)).2.trans a3, (hk _ _ (by decide)).2.trans a4, (hk _ _ (by decide)).2.trans a5, (hk _ _ (by decide)).2.trans a6, (hk _ _ (by decide)).2.trans a7, (hk _ _ (by decide)).2.trans a8, ⟨f, (hk _ _ (by decide)).2.trans a9, fun d hd => (a9' d hd).trans (congrArg some (hk 43 d (by decide)).1.symm)⟩, fun d hd => (hk _ _ (by decide)).2.trans (a10 d hd), ⟨g, (hk _ _ (by decide)).2.trans a11, fun d hd => (a11' d hd).trans (congrArg some (hk 51 d (by decide)).1.symm)⟩, fun d hd => (hk _ _ (by decide)).2.trans (a12 d hd)⟩
/-! rows of arrays laid at once -/
def alR (al : yAl) (K q : Nat) : Nat → yAl
  | 0 => al
  | i + 1 => alp (alR al K q i) K i (q + i)
def shR (x : yShp) (sh : ySh) (K : Nat) : Nat → ySh
  | 0 => sh
  | i + 1 => shp (shR x sh K i) K i x
def SR (S : yS) (K : Nat) : Nat → yS
  | 0 => S
  | i + 1 => szero (SR S K i) K i
theorem alR_at {al : yAl} {K q : Nat} : ∀ {n i : Nat}, i < n → alR al K q n K i = q + i
  | 0, i, h => absurd h (by omega)
  | n + 1, i, h => by
    show alp (alR al K q n) K n (q + n) K i = _
    by_cases e : i = n
    · subst e; exact alp_self _ _ _ _
    · rw [alp_ne _ _ (fun z => e z.2)]; exact alR_at (by omega)
theorem alR_ne {al : yAl} {K q a b : Nat} (h : a ≠ K) : ∀ n : Nat, alR al K q n a b = al a b
  | 0 => rfl
  | n + 1 => by
    show alp (alR al K q n) K n (q + n) a b = _
    rw [alp_ne _ _ (fun z => h z.1)]; exact alR_ne h n
theorem shR_at {x : yShp} {sh : ySh} {K : Nat} : ∀ {n i : Nat}, i < n → shR x sh K n K i = some x
  | 0, i, h => absurd h (by omega)
  | n + 1, i, h => by
    show shp (shR x sh K n) K n x K i = _
    by_cases e : i = n
    · subst e; exact shp_self _ _ _ _
    · rw [shp_ne _ _ (fun z => e z.2)]; exact shR_at (by omega)
theorem shR_gt {x : yShp} {sh : ySh} {K b : Nat} : ∀ {n : Nat}, n ≤ b → shR x sh K n K b = sh K b
  | 0, _ => rfl
  | n + 1, h => by
    show shp (shR x sh K n) K n x K b = _
    rw [shp_ne _ _ (fun z => by have := z.2; omega)]; exact shR_gt (by omega)
theorem shR_ne {x : yShp} {sh : ySh} {K a b : Nat} (h : a ≠ K) : ∀ n : Nat, shR x sh K n a b = sh a b
  | 0 => rfl
  | n + 1 => by
    show shp (shR x sh K n) K n x a b = _
    rw [shp_ne _ _ (fun z => h z.1)]; exact shR_ne h n
theorem SR_z {S : yS} {K a b j : Nat} (h : S a b j = 0) : ∀ n : Nat, SR S K n a b j = 0
  | 0 => h
  | n + 1 => by
    show szero (SR S K n) K n a b j = 0
    by_cases e : a = K ∧ b = n
    · obtain ⟨rfl, rfl⟩ := e; exact szero_i
    · rw [szero_o e]; exact SR_z h n
theorem SR_ne {S : yS} {K a b j : Nat} (h : a ≠ K) : ∀ n : Nat, SR S K n a b j = S a b j
  | 0 => rfl
  | n + 1 => by
    show szero (SR S K n) K n a b j = _
    rw [szero_o (fun z => h z.1)]; exact SR_ne h n
theorem SR_in {S : yS} {K j : Nat} : ∀ {n b : Nat}, b < n → SR S K n K b j = 0
  | 0, b, h => absurd h (by omega)
  | n + 1, b, h => by
    show szero (SR S K n) K n K b j = 0
    by_cases e : b = n
    · subst e; exact szero_i
    · rw [szero_o (fun z => e z.2)]; exact SR_in (by omega)
theorem yW.rows {G : va_G} {n0 : Nat} {al : yAl} {sh : ySh} {S : yS} {H : Heap} {K q : Nat} {c0 : ClassId} (h : yW G n0 al sh S H) (hK : ∀ d, sh K d = none) (ha : K ≠ 99) (hlt : ∀ c d y, sh c d = some y → al c d < q) (hq : n0 ≤ q) : ∀ n : Nat, (∀ j, j < n → H[q + j]? = some (vp_cell c0 (4, .inl (fun _ => 0)))) →
    yW G n0 (alR al K q n) (shR (.inr (.inl (c0, 4))) sh K n) (SR S K n) H ∧ ∀ c d y, shR (.inr (.inl (c0, 4))) sh K n c d = some y → alR al K q n c d < q + n
  | 0, _ => ⟨h, hlt⟩
  | n + 1, hin => by
    obtain ⟨h1, h2⟩ := yW.rows h hK ha hlt hq n (fun j hj => hin j (by omega))
    exact h1.key (x' := .inr (.inl (c0, 4))) (S' := szero (SR S K n) K n) (a := K) (b := n) (q := q + n) ((shR_gt (Nat.le_refl n)).trans (hK n)) ha h2 (by omega) (fun c d j g => szero_o g) (by
      show H[alp (alR al K q n) K n (q + n) K n]? = some (vp_cell c0 (4, .inl (szero (SR S K n) K n K n)))
      rw [alp_self, hin n (by omega), show szero (SR S K n) K n K n = fun _ => 0 from funext fun z => szero_i]) (fun _ _ _ _ e => by cases e)
abbrev yOq (Z : yL) (N q : Nat) : yShp := .inr (.inr (Z.2.1 5, (N, .inr (.inr (.inr (.inr (fun i => if i < N then some (q + 1 + i) else none)))))))
section JBK
variable {p : Program} {l : Launch} {e : Env} {R : Room} {s : State} {m : MethodId} {args : Array Value} {below : List Frame} {meth : Method} {c : Code} {cells slots : Nat} {Q : State → Prop} {cc : ByteArray} {nL pc pc' : Nat} {own : String} {Ts : List Cond} {Z : yL} {al : yAl} {sh : ySh} {S : yS} {lv : List (Nat × Value)} {st : List Value}
theorem j_irem (cx : Cx p s m args c cc nL own Ts Z) {a d9 : Nat} {x y : Int32} (hx : x = nI a) (hy : y = nI d9) (ha : a < 2 ^ 31) (h0 : 0 < d9) (hd : d9 < 2 ^ 31) (d : decode cc pc = .ok (.irem, 1)) (hp : pc + 1 = pc') (k : J p l e R s m args below meth c nL Z cells slots Q al sh S pc' lv (.int (nI (a % d9)) :: st)) : J p l e R s m args below meth c nL Z cells slots Q al sh S pc lv (.int y :: .int x :: st) := by
  subst hp hx hy
  intro H locs ls hW hS hl
  refine lv_irem cx.1.1 cx.1.2.1 d (nI_ne0 h0 hd) ?_
  rw [pk_rem ha h0 hd]
  exact k H locs ls hW hS hl
theorem j_mnaN (cx : Cx p s m args c cc nL own Ts Z) {idx : Nat} (K1 K2 N : Nat) {nv : Int32} (hnv : nv = nI N) (hN : N ≤ 40) (h7 : sh K1 0 = none) (h8 : ∀ d, sh K2 d = none) (h12 : K2 ≠ K1) (h91 : K1 ≠ 99) (h92 : K2 ≠ 99) (hcl : Cond.classLink own idx "[[I" ∈ Ts) (harr : Cond.arrayClass .int ∈ Ts) (hcells : cells + (1 + N) ≤ R.cells) (hslots : slots + (N + N * 4) ≤ R.slots) (d : decode cc pc = .ok (.multianewarray idx 2, 4)) (hp : pc + 4 = pc')
    (k : ∀ q : Nat, J p l e R s m args below meth c nL Z (cells + 1 + N) (slots + N + N * 4) Q (alR (alp al K1 0 q) K2 (q + 1) N) (shR (.inr (.inl (Z.2.1 0, 4))) (shp sh K1 0 (yOq Z N q)) K2 N) (SR S K2 N) pc' lv (.ref q :: st)) : J p l e R s m args below meth c nL Z cells slots Q al sh S pc lv (.int 4 :: .int nv :: st) := by
  subst hp hnv
  intro H locs ls hW hS hl T hT Xs
  have eN : (nI N).toNatClampNeg = N := nI_clamp (by omega)
  have e4 : (4 : Int32).toNatClampNeg = 4 := by decide
  obtain ⟨vm₁, cA, comp, -, fA, fC, hO, -, X', step⟩ := Xs.multianewarray2F (ty := .int) cx.1.1 cx.1.2.2.2.1 (cx.1.2.2.2.2 _ hcl) cx.2.2.2.2.2.2.2.2.2.2.2.1 (cx.1.2.2.2.2 _ harr) (g := F0 m pc ls (.int 4 :: .int (nI N) :: st)) rfl (by rw [cx.1.2.1]; exact d) rfl (nI_pos (by omega)) (by decide) (by rw [eN]; omega) (by decide) (by decide) rfl rfl (by rw [eN]; exact hcells) (by rw [eN, e4]; exact hslots)
  rw [eN, e4] at X'
  rw [eN, e4] at step
  have ecA : cA = Z.2.1 5 := by
    have h9 : s.vm.findClass ("[" ++ (FieldType.array .int).toString) = some (Z.2.1 5) := (cx.2.1.2 5 (Z.2.1 5, .array .int) rfl).2
    exact Option.some.inj (fA.symm.trans h9)
  have ecC : comp = Z.2.1 0 := by
    have h9 : s.vm.findClass ("[" ++ (FieldType.int).toString) = some (Z.2.1 0) := (cx.2.1.2 0 (Z.2.1 0, .int) rfl).2
    exact Option.some.inj (fC.symm.trans h9)
  subst ecA ecC
  change Stand p l e R s m args below meth c (Jvm.Free.Multi.fill (T.setVm vm₁) (Z.2.1 5) (Z.2.1 0) N 4 (.int 0) N) locs (cells + 1 + N) (slots + N + N * 4) at X'
  change ∀ target, Steps p.tables e below ((Jvm.Free.Multi.fill (T.setVm vm₁) (Z.2.1 5) (Z.2.1 0) N 4 (.int 0) N).setTop _) target → _ at step
  have hTh : (T.setVm vm₁).heap = H := hT
  obtain ⟨f1, f2, -, -⟩ := Jvm.Free.Multi.fill_facts (T.setVm vm₁) (Z.2.1 5) (Z.2.1 0) N 4 (.int 0) N
  have hold : ∀ x : Nat, x < H.size → (Jvm.Free.Multi.fill (T.setVm vm₁) (Z.2.1 5) (Z.2.1 0) N 4 (.int 0) N).heap[x]? = H[x]? := fun x hx => by
    have := Jvm.Free.Multi.fill_old (T.setVm vm₁) (Z.2.1 5) (Z.2.1 0) N 4 (.int 0) (a := x) (by rw [hTh]; exact hx) N
    rw [hTh] at this
    exact this
  have hin : ∀ j : Nat, j < N → (Jvm.Free.Multi.fill (T.setVm vm₁) (Z.2.1 5) (Z.2.1 0) N 4 (.int 0) N).heap[H.size + 1 + j]? = some (vp_cell (Z.2.1 0) (4, .inl (fun _ => 0))) := fun j hj => by
    have := Jvm.Free.Multi.fill_inner (T.setVm vm₁) (Z.2.1 5) (Z.2.1 0) N 4 (.int 0) N j hj
    rw [hTh] at this
    rw [this, vp_cell_i, ← arrV_new]
    rfl
  generalize hF : Jvm.Free.Multi.fill (T.setVm vm₁) (Z.2.1 5) (Z.2.1 0) N 4 (.int 0) N = F at X' step f1 f2 hold hin
  rw [hTh] at f1 f2
  rw [y_outer] at f2
  have hW0 : yW Z.1 Z.2.2.1 al sh S F.heap := hW.kept (by rw [f1]; omega) hold
  have hl0 : ∀ c d y, sh c d = some y → al c d < H.size := fun c d y hy => (hW.2.1 c d y hy).2.lt
  have hn0 : Z.2.2.1 ≤ H.size := hW.1
  obtain ⟨hW1, hl1⟩ := hW0.key (S' := S) (q := H.size) (x' := yOq Z N H.size) h7 h91 hl0 hn0 (fun _ _ _ _ => rfl) (by show F.heap[alp al K1 0 H.size K1 0]? = some (vp_cell _ _); rw [alp_self, f2, vp_cell_q]) (fun _ _ _ _ e => by cases e)
  obtain ⟨hW2, -⟩ := yW.rows hW1 (K := K2) (q := H.size + 1) (c0 := Z.2.1 0) (fun d => (shp_ne _ _ (fun z => h12 z.1)).trans (h8 d)) h92 hl1 (by omega) N hin
  have hS2 : va_S (yF Z) s.heap F.heap locs := ⟨by rw [f1]; have := hS.1; omega, fun x g1 g2 => (hold x (Nat.lt_of_lt_of_le g1 hS.1)).trans (hS.2.1 x g1 g2), hS.2.2⟩
  obtain ⟨t, a1, b1⟩ := k H.size F.heap locs ls hW2 hS2 hl F rfl X'
  refine ⟨t, step t ?_, b1⟩
  have e1 : T.heap.size = H.size := by rw [hT]
  rw [e1]
  exact a1
end JBK
/-- a contract whose exceptions can't come -/
theorem Cq.ct {l : Launch} {y : MethodName} {ws : List Cond} {rm : Room} {mc ms : Nat} {Z : yL} {av : List Value} {al : yAl} {sh : ySh} {S : yS} {post : yPost} {px : String → Prop} (h : Cq l y ws rm mc ms Z av al sh S post px) (hn : ∀ E, ¬ px E) : Ct l y ws rm mc ms Z av al sh S post :=
  MetFree.mono h (fun _ _ q => q) (fun _ _ _ _ _ q => q) (fun _ _ _ _ _ hq => hq.elim id (fun ⟨_, _, E, _, _, hx, _⟩ => absurd hx.1 (hn E)))
theorem Cq.ctR {l : Launch} {y : MethodName} {ws : List Cond} {rm : Room} {mc ms : Nat} {Z : yL} {av : List Value} {al : yAl} {sh : ySh} {S S1 : yS} {P : Prop} {v v' : Option Value} {px : String → Prop} (h : Cq l y ws rm mc ms Z av al sh S (yRp P al sh v S1) px) (hn : ∀ E, ¬ px E) (hv : v = v') : Ct l y ws rm mc ms Z av al sh S (yR al sh v' S1) := by
  subst hv
  have h9 := h.ct hn
  unfold Ct Met at h9 ⊢
  refine MetFree.mono h9 (fun _ _ q => q) (fun _ _ _ _ _ q => q) (fun a st o t _ hq => ?_)
  obtain ⟨⟨⟨v, al', sh', S', e1, h1, h2⟩, h3⟩, h4⟩ := hq
  exact ⟨⟨⟨v, al', sh', S', e1, h1.2, h2⟩, h3⟩, h4⟩
theorem yx_no {L : List (Int32 × String)} {k : Int32} (h : k = 0) (hL : ∀ q ∈ L, q.1 ≠ 0) : ∀ E, ¬ yx L k E := fun E hE => by
  obtain ⟨q, h1, -, h3⟩ := hE
  exact hL q h1 (h3.symm.trans h)
/-- what low answers -/
def lwN (v : Int32) (d : Nat) : Nat := (v.toBitVec.toNat % 2 ^ 31) % d
theorem lwN_lt {v : Int32} {d : Nat} (h : 0 < d) : lwN v d < d := Nat.mod_lt _ h
theorem lwN_and (v : Int32) : v &&& 2147483647 = nI (v.toBitVec.toNat % 2 ^ 31) := pk_and v 31 (by decide)
