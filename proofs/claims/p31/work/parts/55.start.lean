theorem y_cls {s : State} {b : Nat} (hts : ∀ w ∈ lw_tbl, w.before #[Value.ref b] s = true) : ∃ G : va_G, ∀ (k : Nat) (q : vw_C), vwCl[k]? = some q → u_Kn s q.1 q.2.1 q.2.2 (G.1 k) (G.2 k) := by
  obtain ⟨c2, i2, h2⟩ := u_known (C := RJx4a65c) (T := TJx4a65c) (N := 3) (n := 3) hts inJx4a65c (hts (.instantiable RJx4a65c 3) (by decide +kernel))
  obtain ⟨c3, i3, h3⟩ := u_known (C := RX0) (T := TX0) (N := 6) (n := 6) hts inX0 (hts (.instantiable RX0 6) (by decide +kernel))
  obtain ⟨c4, i4, h4⟩ := u_known (C := RX1) (T := TX1) (N := 7) (n := 7) hts inX1 (hts (.instantiable RX1 7) (by decide +kernel))
  obtain ⟨c5, i5, h5⟩ := u_known (C := RX2) (T := TX2) (N := 11) (n := 11) hts inX2 (hts (.instantiable RX2 11) (by decide +kernel))
  obtain ⟨c6, i6, h6⟩ := u_known (C := RX3) (T := TX3) (N := 14) (n := 14) hts inX3 (hts (.instantiable RX3 14) (by decide +kernel))
  refine ⟨(fun k => match k with | 0 => c3 | 1 => c3 | 2 => c2 | 3 => c3 | 4 => c4 | 5 => c5 | _ => c6, fun k => match k with | 0 => i3 | 1 => i3 | 2 => i2 | 3 => i3 | 4 => i4 | 5 => i5 | _ => i6), ?_⟩
  intro k q hq
  match k, hq with
  | 0, hq => cases hq; exact h3
  | 1, hq => cases hq; exact h3
  | 2, hq => cases hq; exact h2
  | 3, hq => cases hq; exact h3
  | 4, hq => cases hq; exact h4
  | 5, hq => cases hq; exact h5
  | 6, hq => cases hq; exact h6
  | k + 7, hq => simp [vwCl] at hq
/-- an array class of the tables -/
theorem y_arr {s : State} {A : Array Value} {ty : FieldType} (hty : ∀ C, ty ≠ .object C) (h : (Cond.arrayClass ty).before A s = true) : ∃ cA : ClassId, ArrOfT s cA ty ∧ va_RA s cA ty := by
  obtain ⟨cA, kA, comp, h1, h2, h3⟩ := Cond.arrayClass_spec h
  refine ⟨cA, fun N z => ⟨(fun k h => by cases h), kA, h2, comp, h3⟩, ?_⟩
  cases ty <;> first | exact h1 | exact absurd rfl (hty _)
theorem y_eq0 {t : Term} {A : Array Value} {s : State} (h : (Cond.eq t (.int 0)).before A s = true) : t.eval A s none [] s = some (.int (Int32.ofNat 0)) := by
  simp only [Cond.before, Cond.holds, Cond.value] at h
  cases hv : t.eval A s none [] s with
  | none => simp [hv, Term.eval] at h
  | some v => cases v <;> simp_all [Term.eval]
theorem y_ext {s : State} {b : Nat} (hts : ∀ w ∈ lw_tbl, w.before #[Value.ref b] s = true) (hgv : (Jvm.Cond.and given_1 narrow_1).before #[Value.ref b] s = true) : ∃ tE mO, yE s.heap.size tE mO s s.heap := by
  have hq := flat_of_before _ hgv
  have hA : ∀ a : Nat, a < s.heap.size → ¬ (s.heap.size ≤ a) := fun a h => Nat.not_le.mpr h
  obtain ⟨mO, hmO⟩ := va_Mi.of (hq (.isRef (.mirror "[Ljava/lang/Object;")) (by decide +kernel))
  obtain ⟨v, hv, hv2⟩ := Cond.isRef_spec (hq (.isRef (.static RJx4a65c "DEFAULTCAPACITY_EMPTY_ELEMENTDATA" "[Ljava/lang/Object;")) (by decide +kernel))
  obtain ⟨tE, htE, hT⟩ := va_Tof (tm := .static RJx4a65c "DEFAULTCAPACITY_EMPTY_ELEMENTDATA" "[Ljava/lang/Object;") (ty := .object "java/lang/Object") (N := 0) (f := fun _ => .null) (A := fun q => s.heap.size ≤ q) (by decide) (hq _ (by decide +kernel)) (by
    have hlen := hq (.eq (.length (.static RJx4a65c "DEFAULTCAPACITY_EMPTY_ELEMENTDATA" "[Ljava/lang/Object;")) (.int 0)) (by decide +kernel)
    (first | exact y_eq0 hlen)) (fun j hj => absurd hj (by omega)) hA
  have hst : ∀ q ∈ yStrs, ∃ a, vk_R RX2 q.1 q.2 a s := by
    intro q hq9
    obtain ⟨cC, kC, hfc, -⟩ := Cond.instantiable_spec (hts (.instantiable RX2 11) (by decide +kernel))
    have hw := hts (.stringRef RX2 q.1 q.2) ((show ∀ q ∈ yStrs, Cond.stringRef RX2 q.1 q.2 ∈ lw_tbl by decide +kernel) q hq9)
    obtain ⟨k, cf, i, a, -, -, -, -, -, h6⟩ := Cond.stringRef_spec hfc hw
    exact ⟨a, vk_R.of hw h6⟩
  have hB : yB s := by
    refine ⟨fun q hq9 => ?_, fun q hq9 => ?_, fun x hx y hy hn => ?_⟩
    · exact va_tabs (A := #[Value.ref b]) rfl rfl (hts _ ((show ∀ q ∈ yCast, Cond.castable q.1 q.2 ∈ lw_tbl by decide +kernel) q hq9))
    · exact va_any rfl (hts _ ((show ∀ q ∈ yDecl, Cond.declares q ∈ lw_tbl by decide +kernel) q hq9))
    · exact va_Nc.of (hq _ ((show ∀ x ∈ yExc, ∀ y ∈ yExcC, x ≠ y → Cond.not (.castable x y) ∈ flatC (Jvm.Cond.and given_1 narrow_1) by decide +kernel) x hx y hy hn))
  exact ⟨tE, mO, vx_Zqof (hts _ (by decide +kernel)) (hts _ (by decide +kernel)) (by first | exact hq _ (by decide +kernel) | exact hts _ (by decide +kernel)) hA, vx_Zqof (hts _ (by decide +kernel)) (hts _ (by decide +kernel)) (by first | exact hq _ (by decide +kernel) | exact hts _ (by decide +kernel)) hA, hst, va_Zof (hts _ (by decide +kernel)) (hts _ (by decide +kernel)) htE hA, hT, hmO, hB, va_AO.of (hts (.arrayOver (.object "java/lang/Object")) (by decide +kernel)), hts (.arrayOver (.array .int)) (by decide +kernel), ⟨fun q hq9 => va_Nw.of (A := #[Value.ref b]) rfl (hts _ ((show ∀ q ∈ yNF, Cond.fieldLinkNest "TerminalYardLaw" q.1 "TerminalYardLaw$Book" q.2.1 q.2.2 "TerminalYardLaw" ∈ lw_tbl by decide +kernel) q hq9)), va_Nw.of (A := #[Value.ref b]) rfl (hts (Cond.methodLinkNest "TerminalYardLaw" 172 yNM "TerminalYardLaw") (by decide +kernel))⟩⟩
theorem whole_start {p : Program} {e : Env} {s : State} {m : MethodId} {below : List Frame} {meth : Method} {c : Code} (l : Launch) (hflags : l.flags = flags0) {b L : Nat} {xs : Nat → Int32} (hL : L ≤ 260) (C0 : lw_At p s m meth c b L xs) : W p l e room_1 s m #[Value.ref b] below meth c s.heap [] 0 0 (lw_Z below #[Value.ref b] s) (entryFrame m ([Value.ref b] : List Value).toArray 5) := by
  obtain ⟨hx, hb, hr, hml, hown, hts, hX, hbl, hlocks, hgv⟩ := id C0
  have hl0 : l.stackTraces = false := by
    unfold Launch.stackTraces
    rw [hflags]
    decide +kernel
  obtain ⟨G, hG⟩ := y_cls hts
  obtain ⟨tE, mO, hE⟩ := y_ext hts hgv
  obtain ⟨k0, r0⟩ := y_arr (ty := .int) (fun C h => by cases h) (hts (.arrayClass .int) (by decide +kernel))
  obtain ⟨k1, r1⟩ := y_arr (ty := .char) (fun C h => by cases h) (hts (.arrayClass .char) (by decide +kernel))
  obtain ⟨comp4, k4, kk4, q41, q42, q43, q44, q45⟩ := Cond.arrayOver_spec (args := #[]) hE.2.2.2.2.2.2.2.1
  obtain ⟨comp5, k5, kk5, q51, q52, q53, q54, q55⟩ := arrayOverA_spec hE.2.2.2.2.2.2.2.2.1
  have r4 : ArrOfT s k4 (.object "java/lang/Object") ∧ va_RA s k4 (.object "java/lang/Object") := ⟨fun N z => ⟨(fun k h => by cases h), kk4, q43, comp4, q44⟩, kk4, comp4, q43, q44, q41, q45⟩
  have r5 : ArrOfT s k5 (.array .int) ∧ va_RA s k5 (.array .int) := ⟨fun N z => ⟨(fun k h => by cases h), kk5, q53, comp5, q54⟩, q55⟩
  generalize hcs : (fun k : Nat => match k with | 0 => k0 | 1 => k1 | 2 => k0 | 3 => k0 | 4 => k4 | _ => k5) = cs
  have hK : va_K G vwCl (yT cs) s := by
    refine ⟨hG, fun k q hk => ?_⟩
    subst hcs
    match k, hk with
    | 0, hk => cases hk; exact r0
    | 1, hk => cases hk; exact r1
    | 2, hk => cases hk; exact r0
    | 3, hk => cases hk; exact r0
    | 4, hk => cases hk; exact r4
    | 5, hk => cases hk; exact r5
    | k + 6, hk => simp [yT] at hk
  have cx : Cx p s m ([Value.ref b] : List Value).toArray c code 5 RL wsL_law (G, cs, s.heap.size, tE, mO) := ⟨⟨hx, hb, hml, hown, fun w hw => hts w (wsL_law_in w hw)⟩, hK, Nat.le_refl _, hE⟩
  have hW0 : yW G s.heap.size (fun a _ => if a = 99 then tE else 0) (fun _ _ => none) S00 s.heap := by
    refine ⟨Nat.le_refl _, ?_, ?_, ?_⟩
    · intro a b x h; cases h
    · intro a b c d x y h; cases h
    · intro a b ci tg j k h; cases h
  have hP : yP (G, cs, s.heap.size, tE, mO) (fun a _ => if a = 99 then tE else 0) (fun _ _ => none) S00 s := ⟨hW0, hK, hE⟩
  refine J.start (maxL := 5) (lv := [(0, .ref b)]) (Nat.le_of_ble_eq_true rfl) rfl hP ?_
  refine law_begin hl0 cx hX ⟨hbl, Nat.not_le.mpr hbl⟩ hL ?_ rfl
  intro al sh S lv
  intro H locs ls hW hS hl
  refine va_forget hS.2.2 ?_
  exact W.base (lw_ret (Drawn.sameBut.refl s.drawn lw_cs) hx hb hr hlocks dL_law_122)
