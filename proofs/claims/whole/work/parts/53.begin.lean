section JBEG
variable {p : Program} {l : Launch} {e : Env} {R : Room} {s : State} {m : MethodId} {args : Array Value} {below : List Frame} {meth : Method} {c : Code} {cells slots : Nat} {Q : State → Prop} {cc : ByteArray} {nL pc pc' : Nat} {own : String} {Ts : List Cond} {Z : yL} {al : yAl} {sh : ySh} {S : yS} {lv : List (Nat × Value)} {st : List Value}
theorem j_newl (cx : Cx p s m args c cc nL own Ts Z) (a b : Nat) (hs : sh a b = none) (ha : a ≠ 99) (harr : Cond.arrayClass (newarray.typeOf .long) ∈ Ts) (hcells : cells + 1 ≤ R.cells) (hslots : slots + 1 ≤ R.slots) (d : decode cc pc = .ok (.newarray .long, 2)) (hp : pc + 2 = pc') (k : ∀ q : Nat, J p l e R s m args below meth c nL Z (cells + 1) (slots + 1) Q (alp al a b q) (shp sh a b (yLo Z (fun _ => 0))) S pc' lv (.ref q :: st)) : J p l e R s m args below meth c nL Z cells slots Q al sh S pc lv (.int 1 :: st) := by
  subst hp
  intro H locs ls hW hS hl
  refine va_newaK (n := 1) (N := 1) cx.1.1 cx.1.2.1 (cx.1.2.2.2.2 _ harr) rfl d rfl (by decide) (by decide) (by decide) hcells hslots rfl fun H1 cA e1 z1 o1 hAr hNm => ?_
  have hcA : cA = Z.2.1 2 := by
    have h9 : s.vm.findClass ("[" ++ (FieldType.long).toString) = some (Z.2.1 2) := (cx.2.1.2 2 (Z.2.1 2, .long) rfl).2
    exact Option.some.inj (hNm.symm.trans h9)
  subst hcA
  have hat : yAt Z.1 (alp al a b H.size) S a b (yLo Z (fun _ => 0)) H1 := by
    show H1[alp al a b H.size a b]? = some (vp_cell _ _)
    rw [alp_self, vp_cell_l, e1]
    rfl
  exact k H.size H1 locs ls (hW.new hs ha z1 o1 (fun c d j h => rfl) hat (fun _ _ _ _ e => by cases e)) ⟨Nat.le_trans hS.1 (by omega), fun x h1 h2 => (o1 x (Nat.lt_of_lt_of_le h1 hS.1)).trans (hS.2.1 x h1 h2), hS.2.2⟩ hl
theorem j_newd (cx : Cx p s m args c cc nL own Ts Z) (a b : Nat) (hs : sh a b = none) (ha : a ≠ 99) (harr : Cond.arrayClass (newarray.typeOf .double) ∈ Ts) (hcells : cells + 1 ≤ R.cells) (hslots : slots + 1 ≤ R.slots) (d : decode cc pc = .ok (.newarray .double, 2)) (hp : pc + 2 = pc') (k : ∀ q : Nat, J p l e R s m args below meth c nL Z (cells + 1) (slots + 1) Q (alp al a b q) (shp sh a b (yDo Z (fun _ => 0))) S pc' lv (.ref q :: st)) : J p l e R s m args below meth c nL Z cells slots Q al sh S pc lv (.int 1 :: st) := by
  subst hp
  intro H locs ls hW hS hl
  refine va_newaK (n := 1) (N := 1) cx.1.1 cx.1.2.1 (cx.1.2.2.2.2 _ harr) rfl d rfl (by decide) (by decide) (by decide) hcells hslots rfl fun H1 cA e1 z1 o1 hAr hNm => ?_
  have hcA : cA = Z.2.1 3 := by
    have h9 : s.vm.findClass ("[" ++ (FieldType.double).toString) = some (Z.2.1 3) := (cx.2.1.2 3 (Z.2.1 3, .double) rfl).2
    exact Option.some.inj (hNm.symm.trans h9)
  subst hcA
  have hat : yAt Z.1 (alp al a b H.size) S a b (yDo Z (fun _ => 0)) H1 := by
    show H1[alp al a b H.size a b]? = some (vp_cell _ _)
    rw [alp_self, vp_cell_d, e1]
    rfl
  exact k H.size H1 locs ls (hW.new hs ha z1 o1 (fun c d j h => rfl) hat (fun _ _ _ _ e => by cases e)) ⟨Nat.le_trans hS.1 (by omega), fun x h1 h2 => (o1 x (Nat.lt_of_lt_of_le h1 hS.1)).trans (hS.2.1 x h1 h2), hS.2.2⟩ hl
end JBEG
abbrev S00 : yS := fun _ _ _ => 0
def Sini : yS := mIni (szero (yIni (szero S00 0 0)) 40 0)
theorem szero_z {T : yS} {c d a b j : Nat} (h : T a b j = 0) : szero T c d a b j = 0 := by
  unfold szero
  split
  · rfl
  · exact h
theorem sup_z0 {T : yS} {c d k a b j : Nat} (h : T a b j = 0) : sup T c d k 0 a b j = 0 := by
  unfold sup
  split
  · rfl
  · exact h
theorem sup_z {T : yS} {c d k a b j : Nat} {v : Int32} (g : a ≠ c) (h : T a b j = 0) : sup T c d k v a b j = 0 := by
  rw [sup_off _ _ (fun q => g q.1)]
  exact h
theorem Sini_v (a b j : Nat) : Sini a b j = if b = 0 ∧ j < 3 ∧ (a = 1 ∨ a = 42) then 30 else if b = 0 ∧ j < 3 ∧ (a = 2 ∨ a = 43) then 240 else 0 := by
  by_cases h : a = 1 ∨ a = 2 ∨ a = 42 ∨ a = 43
  · rcases h with rfl | rfl | rfl | rfl <;> (simp only [Sini, mIni, yIni, S5, szero, sup]; simp; (repeat' split) <;> first | rfl | omega)
  · rw [if_neg (by omega), if_neg (by omega)]
    unfold Sini mIni yIni S5
    repeat (first | apply szero_z | apply sup_z0 | apply sup_z (by omega))
    rfl
theorem IN_ini (mu : Nat → Nat) : IN Sini 0 0 mu 0 := by
  have z : ∀ a b j, a ≠ 1 → a ≠ 2 → a ≠ 42 → a ≠ 43 → Sini a b j = 0 := fun a b j h1 h2 h3 h4 => by
    rw [Sini_v, if_neg (by omega), if_neg (by omega)]
  refine ⟨⟨?_, ?_, by decide, by decide, fun i hi => absurd hi (by omega), fun i _ => ?_, fun i hi => absurd hi (by omega), fun i _ => ?_, fun i _ => ?_, fun i => ?_, fun i => ?_⟩, ⟨?_, ?_, fun i hi => absurd hi (by omega), fun i _ => ?_, fun i hi => absurd hi (by omega)⟩, ⟨fun i hi => absurd hi (by omega), fun i hi => absurd hi (by omega), fun i hi => absurd hi (by omega)⟩, ?_, ?_, fun j hj => ?_, fun j hj => ?_, fun j hj => ?_, fun j hj => ?_, fun j hj => ?_, fun j hj => ?_, fun d e _ _ => ?_, fun d hd => ?_, ⟨fun i d hi => absurd hi (by omega), fun j _ => ?_⟩, ?_, fun i hi => absurd hi (by omega), fun i hi => absurd hi (by omega), fun i hi => absurd hi (by omega), fun i _ => ?_, fun i hi => absurd hi (by omega), fun i hi => absurd hi (by omega)⟩
  · exact z 40 0 4 (by decide) (by decide) (by decide) (by decide)
  · exact z 40 0 12 (by decide) (by decide) (by decide) (by decide)
  · rw [z 51 0 i (by decide) (by decide) (by decide) (by decide)]; unfold vp_in; decide
  · rw [z 45 0 i (by decide) (by decide) (by decide) (by decide)]; unfold vp_in; decide
  · rw [z 46 0 i (by decide) (by decide) (by decide) (by decide)]; unfold vp_in; decide
  · rw [z 48 0 i (by decide) (by decide) (by decide) (by decide)]; rfl
  · rw [z 59 0 i (by decide) (by decide) (by decide) (by decide)]; rfl
  · exact z 9 0 2 (by decide) (by decide) (by decide) (by decide)
  · exact z 11 0 2 (by decide) (by decide) (by decide) (by decide)
  · rw [z 4 0 i (by decide) (by decide) (by decide) (by decide)]; unfold vp_in; decide
  · rw [z 0 0 9 (by decide) (by decide) (by decide) (by decide), z 40 0 1 (by decide) (by decide) (by decide) (by decide)]
  · rw [z 0 0 10 (by decide) (by decide) (by decide) (by decide), z 40 0 21 (by decide) (by decide) (by decide) (by decide)]
  · rw [Sini_v, Sini_v, if_pos ⟨rfl, hj, Or.inl rfl⟩, if_pos ⟨rfl, hj, Or.inr rfl⟩]
  · rw [Sini_v, Sini_v, if_neg (by omega), if_pos ⟨rfl, hj, Or.inl rfl⟩, if_neg (by omega), if_pos ⟨rfl, hj, Or.inr rfl⟩]
  · rw [z 3 0 j (by decide) (by decide) (by decide) (by decide), z 60 0 j (by decide) (by decide) (by decide) (by decide)]
  · rw [z 4 0 j (by decide) (by decide) (by decide) (by decide), z 51 0 j (by decide) (by decide) (by decide) (by decide)]
  · rw [z 5 0 j (by decide) (by decide) (by decide) (by decide), z 49 0 j (by decide) (by decide) (by decide) (by decide)]
  · rw [z 5 0 j (by decide) (by decide) (by decide) (by decide)]; decide
  · rw [z 8 d e (by decide) (by decide) (by decide) (by decide), z 50 0 _ (by decide) (by decide) (by decide) (by decide)]
  · show gBy (Sini 6) (Sini 8) d = Sini 5 0 d
    unfold gBy
    simp only [z 6 0 d (by decide) (by decide) (by decide) (by decide), z 5 0 d (by decide) (by decide) (by decide) (by decide), fun a b => z 8 a b (by decide) (by decide) (by decide) (by decide)]
    rfl
  · exact z 58 0 j (by decide) (by decide) (by decide) (by decide)
  · exact z 40 0 22 (by decide) (by decide) (by decide) (by decide)
  · exact z 59 0 i (by decide) (by decide) (by decide) (by decide)
theorem YL.alto {Z : yL} {al al' : yAl} {sh : ySh} {k kd n : Nat} (h : YL Z al sh k kd n) (h2 : ∀ i, al' kd i = al kd i) : YL Z al' sh k kd n := h.to rfl (fun _ => rfl) (fun i _ => h2 i)
theorem YC.alto {Z : yL} {al al' : yAl} {sh : ySh} {nm ns : Nat} {mu : Nat → Nat} (h : YC Z al sh nm ns mu) (hk : ∀ a b, a < 40 → al' a b = al a b) (h99 : al' 99 0 = al 99 0) : YC Z al' sh nm ns mu := by
  obtain ⟨a1, a2, a3, a4, a5, a6, a7, ⟨f, a8, a8'⟩, a9, a10, a11, a12, a13, a14, a15, a16, a17, a18⟩ := h
  exact ⟨a1, a2, a3, a4, a5, a6, a7, ⟨f, a8, fun d hd => (a8' d hd).trans (congrArg some (hk 8 d (by decide)).symm)⟩, a9, a10.alto (fun i => hk 20 i (by decide)), a11.alto (fun i => hk 21 i (by decide)), a12, a13, a14, a15, h99.trans a16, a17, a18⟩
set_option maxHeartbeats 4000000 in
set_option maxRecDepth 100000 in
theorem law_begin {p : Program} {l : Launch} {e : Env} {R : Room} {s : State} {m : MethodId} {args : Array Value} {below : List Frame} {meth : Method} {c : Code} {Q : State → Prop} {Z : yL} {b L : Nat} {xs : Nat → Int32} (hPU : PURE) (hl0 : l.stackTraces = false) (cx : Cx p s m args c code 9 RL wsL_law Z) (hX : va_X b L xs s s.heap) (hb0 : b < s.heap.size ∧ ¬ Z.2.2.1 ≤ b) (hR : 20 ≤ R.frames ∧ 10000 ≤ R.locals ∧ 603072 ≤ R.cells ∧ 7207018 ≤ R.slots) (hL : L ≤ 2048) (hend : ∀ (al : yAl) (sh : ySh) (S : yS) (lv : List (Nat × Value)), J p l e R s m args below meth c 9 Z 603072 7207018 Q al sh S 1890 lv []) {al : yAl} (hE : al 99 0 = Z.2.2.2.1) : J p l e R s m args below meth c 9 Z 0 0 Q al (fun _ _ => none) S00 0 [(0, .ref b)] [] := by
  refine j_new (C := RX2) (T := TX2) (N := 11) (ci := 5) cx 0 0 rfl (by decide) rfl (by decide +kernel) tyX2 tyX2_ok (by decide +kernel) (by decide +kernel) (by decide +kernel) (tg := tgY0) (by decide) (fun j k => by unfold tgY0; split <;> simp) (by decide) (by omega) (by omega) dL_law_0 (pc' := 3) rfl (fun q0 => ?_)
  refine j_dup cx dL_law_3 rfl (pc' := 4) rfl ?_
  refine j_cIP (al := (alp al 0 0 q0)) (sh := (shp (fun _ _ => none) 0 0 (.inl (5, tgY0)))) (S := szero S00 0 0) (cells1 := 0 + 1 + 13) (slots1 := 0 + 11 + 80) (As := []) (rest := [.ref q0]) cx (c_X2_init (mu := fun _ => 0) (shp_self _ _ _ _) (fun a b h1 h2 => shp_ne _ _ (by omega)) ((alp_ne _ _ (by decide)).trans hE) (alp_self _ _ _ _).symm) gL_law_X2_init rfl rfl rfl 0 rfl (by decide +kernel) (by decide +kernel) (by decide +kernel) rfl (by decide +kernel) ⟨(by show 6 + 1 ≤ _; omega), (by show 8 + (2 + 11) + 140 ≤ _; omega)⟩ rfl (Nat.le_of_ble_eq_true rfl) dL_law_4 ⟨by omega, by omega⟩ (pc' := 7) rfl rfl rfl (fun v9 al1 sh1 S1 h9 => ?_)
  obtain ⟨e1, hY1, hF1, hk1, hr1, e2⟩ := h9
  subst v9 S1
  refine J.stk (st2 := [.ref q0]) rfl ?_
  refine j_astore_n (lv' := [(1, .ref q0), (0, .ref b)]) cx dL_law_7 rfl (by decide) rfl (pc' := 8) rfl ?_
  have h40 : ∀ a, 40 ≤ a → sh1 a 0 = none := fun a h => (hk1 a 0 h).2.trans (shp_ne _ _ (by omega))
  refine j_new (C := RX3) (T := TX3) (N := 23) (ci := 6) cx 40 0 (h40 40 (by decide)) (by decide) rfl (by decide +kernel) tyX3 tyX3_ok (by decide +kernel) (by decide +kernel) (by decide +kernel) (tg := tgX0) (by decide) (fun j k => by unfold tgX0; split <;> simp) (by decide) (by omega) (by omega) dL_law_8 (pc' := 11) rfl (fun q40 => ?_)
  refine j_dup cx dL_law_11 rfl (pc' := 12) rfl ?_
  refine j_cIP (al := alp al1 40 0 q40) (sh := shp sh1 40 0 (.inl (6, tgX0))) (S := szero (yIni (szero S00 0 0)) 40 0) (cells1 := 0 + 1 + 13 + 1 + 17) (slots1 := 0 + 11 + 80 + 23 + 480) (As := []) (rest := [.ref q40]) cx (c_X3_init (shp_self _ _ _ _) (fun a h1 h2 => (shp_ne _ _ (by omega)).trans (h40 a (by omega))) (alp_self _ _ _ _).symm) gL_law_X3_init rfl rfl rfl 0 rfl (by decide +kernel) (by decide +kernel) (by decide +kernel) rfl (by decide +kernel) ⟨(by show 2 + 1 ≤ _; omega), (by show 8 + (1 + 11) + 60 ≤ _; omega)⟩ rfl (Nat.le_of_ble_eq_true rfl) dL_law_12 ⟨by omega, by omega⟩ (pc' := 15) rfl rfl rfl (fun v9 al2 sh2 S2 h9 => ?_)
  obtain ⟨e1, hX2, hk2, hr2, e2⟩ := h9
  subst v9 S2
  refine J.stk (st2 := [.ref q40]) rfl ?_
  refine j_astore_n (lv' := [(2, .ref q40), (1, .ref q0), (0, .ref b)]) cx dL_law_15 rfl (by decide) rfl (pc' := 16) rfl ?_
  have hs2 : ∀ a b, a < 40 → sh2 a b = sh1 a b := fun a b h => (hk2 a b (by omega)).2.trans (shp_ne _ _ (by omega))
  have ha2 : ∀ a b, a < 40 → al2 a b = al1 a b := fun a b h => (hk2 a b (by omega)).1.trans (alp_ne _ _ (by omega))
  have h70 : ∀ a, 61 ≤ a → sh2 a 0 = none := fun a h => ((hk2 a 0 (by omega)).2.trans (shp_ne _ _ (by omega))).trans (h40 a (by omega))
  have g0 : al2 0 0 = q0 := (ha2 0 0 (by decide)).trans (hr1.trans (alp_self _ _ _ _))
  have g40 : al2 40 0 = q40 := hr2.trans (alp_self _ _ _ _)
  refine j_iconst (v := 1) cx dL_law_16 (by decide) (pc' := 17) rfl ?_
  refine j_newl cx 70 0 (h70 70 (by decide)) (by decide) (by decide +kernel) (by omega) (by omega) dL_law_17 (pc' := 19) rfl (fun q70 => ?_)
  refine j_astore_n (lv' := [(3, .ref q70), (2, .ref q40), (1, .ref q0), (0, .ref b)]) cx dL_law_19 rfl (by decide) rfl (pc' := 20) rfl ?_
  refine j_iconst (v := 1) cx dL_law_20 (by decide) (pc' := 21) rfl ?_
  refine j_newd cx 71 0 ((shp_ne _ _ (by decide)).trans (h70 71 (by decide))) (by decide) (by decide +kernel) (by omega) (by omega) dL_law_21 (pc' := 23) rfl (fun q71 => ?_)
  refine j_astore (lv' := [(4, .ref q71), (3, .ref q70), (2, .ref q40), (1, .ref q0), (0, .ref b)]) cx dL_law_23 (by decide) rfl (pc' := 25) rfl ?_
  refine j_iconst (v := 0) cx dL_law_25 (by decide) (pc' := 26) rfl ?_
  refine j_istore (lv' := [(5, .int 0), (4, .ref q71), (3, .ref q70), (2, .ref q40), (1, .ref q0), (0, .ref b)]) cx dL_law_26 (by decide) rfl (pc' := 28) rfl ?_
  refine J.sub [5, 4, 3, 2, 1, 0] rfl (J.widen (k := 100 + 1170 * 0) (n := 1000 + 14000 * 0) (by omega) (by omega) (law_loop hPU hl0 cx hX hb0 hR hL hend (L / 4) 0 _ _ _ (by omega) ?_))
  refine ⟨(alp_ne _ _ (by decide)).trans ((alp_ne _ _ (by decide)).trans g0), (alp_ne _ _ (by decide)).trans ((alp_ne _ _ (by decide)).trans g40), (alp_ne _ _ (by decide)).trans (alp_self _ _ _ _), alp_self _ _ _ _, ⟨_, (shp_ne _ _ (by decide)).trans (shp_self _ _ _ _)⟩, ⟨_, shp_self _ _ _ _⟩, (hX2.out (by decide)).out (by decide), 0, 0, fun _ => 0, ?_, ?_, IN_ini _⟩
  · have hY2 : YC Z (alp (alp al2 70 0 q70) 71 0 q71) sh1 0 0 (fun _ => 0) := hY1.alto (fun a b h => ((alp_ne _ _ (by omega)).trans (alp_ne _ _ (by omega))).trans (ha2 a b h)) (((alp_ne _ _ (by decide)).trans (alp_ne _ _ (by decide))).trans ((hk2 99 0 (by decide)).1.trans (alp_ne _ _ (by decide))))
    exact hY2.to (fun a b h => ((shp_ne _ _ (by omega)).trans (shp_ne _ _ (by omega))).trans (hs2 a b h))
  · exact hF1.to (fun a b h => ((shp_ne _ _ (by omega)).trans (shp_ne _ _ (by omega))).trans (hs2 a b h))
