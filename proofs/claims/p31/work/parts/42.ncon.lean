/-! THE CLASS'S CALLS, as the law makes them -/
theorem Cq.mono {l : Launch} {y : MethodName} {ws : List Cond} {rm : Room} {mc ms : Nat} {Z : yL} {av : List Value} {al : yAl} {sh : ySh} {S : yS} {post post' : yPost} {px px' : String → Prop} (h : Cq l y ws rm mc ms Z av al sh S post px) (hp : ∀ v al' sh' S', post v al' sh' S' → post' v al' sh' S') (hx : ∀ E, px E → px' E) : Cq l y ws rm mc ms Z av al sh S post' px' := by
  unfold Cq vx_Met at h ⊢
  refine MetFree.mono h (fun _ _ q => q) (fun _ _ _ _ _ q => q) (fun a st o t _ hq => ?_)
  rcases hq with ⟨⟨⟨v, al', sh', S', e1, h1, h2⟩, h3⟩, h4⟩ | ⟨q, e1, E, ce, L, hX, h2⟩
  · exact Or.inl ⟨⟨⟨v, al', sh', S', e1, hp _ _ _ _ h1, h2⟩, h3⟩, h4⟩
  · exact Or.inr ⟨q, e1, E, ce, L, ⟨hx E hX.1, hX.2⟩, h2⟩
theorem Ct.mono {l : Launch} {y : MethodName} {ws : List Cond} {rm : Room} {mc ms : Nat} {Z : yL} {av : List Value} {al : yAl} {sh : ySh} {S : yS} {post post' : yPost} (h : Ct l y ws rm mc ms Z av al sh S post) (hp : ∀ v al' sh' S', post v al' sh' S' → post' v al' sh' S') : Ct l y ws rm mc ms Z av al sh S post' := by
  unfold Ct Met at h ⊢
  refine MetFree.mono h (fun _ _ q => q) (fun _ _ _ _ _ q => q) (fun a st o t _ hq => ?_)
  obtain ⟨⟨⟨v, al', sh', S', e1, h1, h2⟩, h3⟩, h4⟩ := hq
  exact ⟨⟨⟨v, al', sh', S', e1, hp _ _ _ _ h1, h2⟩, h3⟩, h4⟩
theorem vI {x y : Int32} (h : x = y) : some (Value.int x) = some (Value.int y) := congrArg (fun z => some (Value.int z)) h
theorem oR_in {d m : Nat} {b : Int32} (hb : b = nI m) (h : d ≤ m) (hm : m < 2 ^ 31) : ¬ oR 0 b (nI d) := by
  subst hb
  rintro (q | q)
  · exact nI_pos (by omega) q
  · exact nI_nlt h (by omega) q
theorem oN_in {d n : Nat} (h : d < n) (hn : n < 2 ^ 31) : ¬ oN n (nI d) := vp_in_nI h hn
theorem oR_m {m : Int32} (h : 1 ≤ m.toInt) (h2 : m.toInt ≤ 5000) : ¬ oR 1 5000 m := by
  rintro (q | q)
  · rw [Int32.lt_iff_toInt_lt, show (1 : Int32).toInt = 1 by decide] at q; omega
  · rw [Int32.lt_iff_toInt_lt, show (5000 : Int32).toInt = 5000 by decide] at q; omega
theorem nI_eqI {a b : Nat} (ha : a ≤ 1000) (hb : b ≤ 1000) (h : a ≠ b) : ¬ nI a = nI b := fun q => h ((nI_6 ha hb).mp q)
set_option maxHeartbeats 1000000 in
theorem n_time {l : Launch} (hl0 : l.stackTraces = false) {Z : yL} {al : yAl} {sh : ySh} {S B : yS} {ns : Nat} {mu : Nat → Nat} {M T : Nat} (hY : YC Z al sh 3 ns mu) (h : IN S B ns mu M T) : Ct l yX2_time wsX2_time ({ frames := 0, cells := 0, slots := 0, locals := 0 }) 0 0 Z [.ref (al 0 0)] al sh S (yR al sh (some (.int (B 40 0 13))) S) := by
  have e : S 0 0 9 = B 40 0 13 := h.1.1
  rw [← e]
  exact c_X2_time hY
set_option maxHeartbeats 1000000 in
theorem n_free {l : Launch} (hl0 : l.stackTraces = false) {Z : yL} {al : yAl} {sh : ySh} {S B : yS} {ns : Nat} {mu : Nat → Nat} {M T : Nat} (hY : YC Z al sh 3 ns mu) (h : IN S B ns mu M T) : Ct l yX2_free wsX2_free ({ frames := 7, cells := 1, slots := 6, locals := 110 }) 1 6 Z [.ref (al 0 0), .int 0] al sh S (yR al sh (some (.int (12 - bLiv B 0 0 ns))) S) := by
  exact (c_X2_free hl0 hY h.s9).ctR (yx_no (by decide) (by decide)) (vI h.free)
set_option maxHeartbeats 1000000 in
theorem n_min {l : Launch} (hl0 : l.stackTraces = false) {Z : yL} {al : yAl} {sh : ySh} {S B : yS} {ns : Nat} {mu : Nat → Nat} {M T : Nat} (hY : YC Z al sh 3 ns mu) (h : IN S B ns mu M T) {d : Nat} (hd : d < 4) : Ct l yX2_minutes wsX2_minutes ({ frames := 7, cells := 1, slots := 6, locals := 110 }) 1 6 Z [.ref (al 0 0), .int (nI d)] al sh S (yR al sh (some (.int (B 41 0 d))) S) := by
  have k := c_X2_minutes hl0 (S := S) hY (d := nI d)
  rw [nI_clamp (by omega)] at k
  exact k.ctR (yx_no (by unfold kDep; rw [if_neg (oR_in (m := 3) (by decide) (by omega) (by decide))]) (by decide)) (vI (h.2.2.1 d hd))
set_option maxHeartbeats 1000000 in
theorem n_mbs {l : Launch} (hl0 : l.stackTraces = false) {Z : yL} {al : yAl} {sh : ySh} {S B : yS} {ns : Nat} {mu : Nat → Nat} {M T : Nat} (hY : YC Z al sh 3 ns mu) (h : IN S B ns mu M T) {d : Nat} (hd : d < 4) : Ct l yX2_minutesBySessions wsX2_minutesBySessions ({ frames := 7, cells := 1, slots := 6, locals := 110 }) 1 6 Z [.ref (al 0 0), .int (nI d)] al sh S (yR al sh (some (.int (B 41 0 d))) S) := by
  have k := c_X2_minutesBySessions hl0 hY h.s11 (d := nI d)
  rw [nI_clamp (by omega)] at k
  exact k.ctR (yx_no (by unfold kDep; rw [if_neg (oR_in (m := 3) (by decide) (by omega) (by decide))]) (by decide)) (vI (h.by hd))
set_option maxHeartbeats 1000000 in
theorem n_usr {l : Launch} (hl0 : l.stackTraces = false) {Z : yL} {al : yAl} {sh : ySh} {S B : yS} {ns : Nat} {mu : Nat → Nat} {M T : Nat} (hY : YC Z al sh 3 ns mu) (h : IN S B ns mu M T) {i : Nat} (hi : i < ns) : Ct l yX2_userOf wsX2_userOf ({ frames := 7, cells := 1, slots := 6, locals := 111 }) 1 6 Z [.ref (al 0 0), .int (nI i)] al sh S (yR al sh (some (.int (B 46 0 i))) S) := by
  have hn := h.ns40
  have k := c_X2_userOf hl0 hY h.s11 (x := nI i)
  rw [nI_clamp (by omega)] at k
  exact k.ctR (fun E q => q.2 (vp_in_nI hi (by omega))) (vI (h.2.2.2.2.1 i hi).2.2.1)
set_option maxHeartbeats 1000000 in
theorem n_sta {l : Launch} (hl0 : l.stackTraces = false) {Z : yL} {al : yAl} {sh : ySh} {S B : yS} {ns : Nat} {mu : Nat → Nat} {M T : Nat} (hY : YC Z al sh 3 ns mu) (h : IN S B ns mu M T) {i : Nat} (hi : i < ns) : Ct l yX2_state wsX2_state ({ frames := 7, cells := 1, slots := 6, locals := 111 }) 1 6 Z [.ref (al 0 0), .int (nI i)] al sh S (yR al sh (some (.int (if B 49 0 i = 0 then (if B 46 0 i = B 45 0 i then 97 else 116) else B 49 0 i))) S) := by
  have hn := h.ns40
  have k := c_X2_state hl0 hY h.s11 h.hch (x := nI i)
  rw [nI_clamp (by omega)] at k
  exact k.ctR (yx_no (by unfold kIdx; rw [if_neg (oN_in hi (by omega))]) (by decide)) (vI (h.state hi))
set_option maxHeartbeats 1000000 in
theorem n_chg {l : Launch} (hl0 : l.stackTraces = false) {Z : yL} {al : yAl} {sh : ySh} {S B : yS} {ns : Nat} {mu : Nat → Nat} {M T : Nat} (hY : YC Z al sh 3 ns mu) (h : IN S B ns mu M T) {i d : Nat} (hi : i < ns) (hd : d < 4) : Ct l yX2_charged wsX2_charged ({ frames := 7, cells := 2, slots := 12, locals := 111 }) 2 12 Z [.ref (al 0 0), .int (nI i), .int (nI d)] al sh S (yR al sh (some (.int (B 51 i d))) S) := by
  have hn := h.ns40
  have k := c_X2_charged hl0 hY h.s11 (x := nI i) (d := nI d)
  rw [nI_clamp (n := i) (by omega), nI_clamp (n := d) (by omega)] at k
  exact k.ctR (yx_no (by unfold kChg; rw [if_neg (oN_in hi (by omega)), if_neg (oR_in (m := 3) (by decide) (by omega) (by decide))]) (by decide)) (vI (h.2.2.2.2.2.1 i d hi hd))
set_option maxHeartbeats 1000000 in
theorem n_psh {l : Launch} (hl0 : l.stackTraces = false) {Z : yL} {al : yAl} {sh : ySh} {S B : yS} {ns : Nat} {mu : Nat → Nat} {M T : Nat} (hY : YC Z al sh 3 ns mu) (h : IN S B ns mu M T) (h0 : ¬ B 40 0 12 = 0) : Ct l yX2_pageShare wsX2_pageShare ({ frames := 6, cells := 1, slots := 6, locals := 90 }) 1 6 Z [.ref (al 0 0)] al sh S (yR al sh (some (.float (FP.fdiv (FP.i2f (B 40 0 11)) (FP.i2f (B 40 0 12))))) S) := by
  have k := c_X2_pageShare hl0 hY h.s11
  have e : S 0 0 10 = B 40 0 11 := h.1.2.1
  rw [h.all, e] at k
  exact k.ctR (yx_no (by unfold kAll; rw [if_neg h0]) (by decide)) rfl
set_option maxHeartbeats 1000000 in
theorem n_mch {l : Launch} (hl0 : l.stackTraces = false) {Z : yL} {al : yAl} {sh : ySh} {S B : yS} {ns : Nat} {mu : Nat → Nat} {M T : Nat} (hY : YC Z al sh 3 ns mu) (h : IN S B ns mu M T) (h0 : ¬ nI ns = 0) : Ct l yX2_meanCharge wsX2_meanCharge ({ frames := 6, cells := 1, slots := 6, locals := 90 }) 1 6 Z [.ref (al 0 0)] al sh S (yR al sh (some (.double (FP.ddiv (FP.i2d (B 40 0 12)) (FP.i2d (nI ns))))) S) := by
  have k := c_X2_meanCharge hl0 hY h.s11
  rw [h.all] at k
  exact k.ctR (yx_no (by unfold kAll; rw [if_neg h0]) (by decide)) rfl
set_option maxHeartbeats 1000000 in
theorem n_asg {l : Launch} (hl0 : l.stackTraces = false) {Z : yL} {al : yAl} {sh : ySh} {S B : yS} {ns : Nat} {mu : Nat → Nat} {M T : Nat} (hY : YC Z al sh 3 ns mu) (h : IN S B ns mu M T) {u d : Nat} (hu : u < 10) (hd : d < 4) : Ct l yX2_assign wsX2_assign ({ frames := 7, cells := 2, slots := 12, locals := 110 }) 2 12 Z [.ref (al 0 0), .int (nI u), .int (nI d)] al sh S (yR al sh (some (.int (B 44 0 u))) (sup S 4 0 u (nI d))) := by
  have k := c_X2_assign hl0 (S := S) hY (u := nI u) (d := nI d)
  rw [nI_clamp (n := u) (by omega)] at k
  exact k.ctR (yx_no (by unfold kAss; rw [if_neg (fun q => q.elim (oR_in (m := 9) (by decide) (by omega) (by decide)) (oR_in (m := 3) (by decide) (by omega) (by decide)))]) (by decide)) (vI (h.2.1 u hu).1)
set_option maxHeartbeats 1000000 in
theorem n_buy {l : Launch} (hl0 : l.stackTraces = false) {Z : yL} {al : yAl} {sh : ySh} {S B : yS} {ns : Nat} {mu : Nat → Nat} {M T : Nat} (hY : YC Z al sh 3 ns mu) (h : IN S B ns mu M T) {d : Nat} {m : Int32} (hd : d < 4) (hm : 1 ≤ m.toInt ∧ m.toInt ≤ 60) (hM : M ≤ 50000) : Ct l yX2_buy wsX2_buy ({ frames := 7, cells := 3, slots := 18, locals := 110 }) 3 18 Z [.ref (al 0 0), .int (nI d), .int m] al sh S (yR al sh (some (.int (B 41 0 d + m))) (sup (sup S 6 0 d (S 6 0 d + m)) 5 0 d (S 5 0 d + m))) := by
  have k := c_X2_buy hl0 (S := S) hY (d := nI d) (m := m)
  rw [nI_clamp (n := d) (by omega)] at k
  have g := h.pos hd
  refine k.ctR (yx_no ?_ (by decide)) (vI (by rw [show S 5 0 d = B 41 0 d from h.2.2.1 d hd]))
  unfold kBuy
  rw [if_neg (fun q => q.elim (oR_in (m := 3) (by decide) (by omega) (by decide)) (oR_m hm.1 (by omega))), if_neg ?_]
  rw [Int32.lt_iff_toInt_lt, i32_add (by omega) g.1 (by omega), show (99999 : Int32).toInt = 99999 by decide]
  omega
set_option maxHeartbeats 1000000 in
theorem n_lend {l : Launch} (hl0 : l.stackTraces = false) {Z : yL} {al : yAl} {sh : ySh} {S B : yS} {ns : Nat} {mu : Nat → Nat} {M T : Nat} (hY : YC Z al sh 3 ns mu) (h : IN S B ns mu M T) {a b : Nat} {m : Int32} (ha : a < 4) (hb : b < 4) (hab : a ≠ b) (hm : 1 ≤ m.toInt ∧ m.toInt ≤ 60) : Cq l yX2_lend wsX2_lend ({ frames := 8, cells := 5, slots := 30, locals := 131 }) 5 30 Z [.ref (al 0 0), .int (nI a), .int (nI b), .int m] al sh S (yRp (¬ B 41 0 a < m) al sh (some (.int (B 43 b a + m))) (sup (fMove S a b m) 8 b a (S 8 b a + m))) (fun E => E = xUO ∧ B 41 0 a < m) := by
  have k := c_X2_lend hl0 (S := S) hY (f := nI a) (t := nI b) (m := m)
  have e8 : (fMove S a b m) 8 = S 8 := by unfold fMove; rw [sup_k (by decide), sup_k (by decide)]
  rw [nI_clamp (n := a) (by omega), nI_clamp (n := b) (by omega), e8, show S 5 0 a = B 41 0 a from h.2.2.1 a ha] at k
  have n1 : ¬ (oR 0 3 (nI a) ∨ oR 0 3 (nI b) ∨ nI a = nI b ∨ oR 1 5000 m) := by
    rintro (q | q | q | q)
    · exact oR_in (m := 3) (by decide) (by omega) (by decide) q
    · exact oR_in (m := 3) (by decide) (by omega) (by decide) q
    · exact nI_eqI (by omega) (by omega) hab q
    · exact oR_m hm.1 (by omega) q
  have kk : kLend (nI a) (nI b) m (B 41 0 a) = if B 41 0 a < m then 2 else 0 := by unfold kLend; rw [if_neg n1]
  rw [kk] at k
  refine k.mono (fun v al1 sh1 S1 q => ⟨fun z => ?_, q.2.1.trans (vI (by rw [show S 8 b a = B 43 b a from h.2.2.2.1 b a hb ha])), q.2.2⟩) (fun E q => ?_)
  · have := q.1
    rw [if_pos z] at this
    exact absurd this (by decide)
  · obtain ⟨q9, q1, q2, q3⟩ := q
    simp only [List.mem_cons, List.not_mem_nil, or_false] at q1
    by_cases z : B 41 0 a < m
    · rw [if_pos z] at q3
      rcases q1 with rfl | rfl
      · exact absurd q3 (by decide)
      · exact ⟨q2, z⟩
    · rw [if_neg z] at q3
      rcases q1 with rfl | rfl <;> exact absurd q3 (by decide)
set_option maxHeartbeats 1000000 in
theorem n_give {l : Launch} (hl0 : l.stackTraces = false) {Z : yL} {al : yAl} {sh : ySh} {S B : yS} {ns : Nat} {mu : Nat → Nat} {M T : Nat} (hY : YC Z al sh 3 ns mu) (h : IN S B ns mu M T) {a b : Nat} {m : Int32} (ha : a < 4) (hb : b < 4) (hab : a ≠ b) (hm : 1 ≤ m.toInt ∧ m.toInt ≤ 60) : Cq l yX2_giveBack wsX2_giveBack ({ frames := 8, cells := 5, slots := 30, locals := 131 }) 5 30 Z [.ref (al 0 0), .int (nI a), .int (nI b), .int m] al sh S (yRp (¬ B 43 a b < m ∧ ¬ B 41 0 a < m) al sh (some (.int (B 43 a b - m))) (sup (fMove S a b m) 8 a b (S 8 a b - m))) (fun E => (E = xIS ∧ B 43 a b < m) ∨ (E = xUO ∧ ¬ B 43 a b < m ∧ B 41 0 a < m)) := by
  have k := c_X2_giveBack hl0 (S := S) hY (f := nI a) (t := nI b) (m := m)
  have e8 : (fMove S a b m) 8 = S 8 := by unfold fMove; rw [sup_k (by decide), sup_k (by decide)]
  rw [nI_clamp (n := a) (by omega), nI_clamp (n := b) (by omega), e8, show S 5 0 a = B 41 0 a from h.2.2.1 a ha, show S 8 a b = B 43 a b from h.2.2.2.1 a b ha hb] at k
  rw [show S 8 a b = B 43 a b from h.2.2.2.1 a b ha hb]
  have n1 : ¬ (oR 0 3 (nI a) ∨ oR 0 3 (nI b) ∨ nI a = nI b ∨ oR 1 5000 m) := by
    rintro (q | q | q | q)
    · exact oR_in (m := 3) (by decide) (by omega) (by decide) q
    · exact oR_in (m := 3) (by decide) (by omega) (by decide) q
    · exact nI_eqI (by omega) (by omega) hab q
    · exact oR_m hm.1 (by omega) q
  have kk : kGive (nI a) (nI b) m (B 43 a b) (B 41 0 a) = if B 43 a b < m then 2 else if B 41 0 a < m then 3 else 0 := by unfold kGive; rw [if_neg n1]
  rw [kk] at k
  refine k.mono (fun v al1 sh1 S1 q => ⟨⟨fun z => ?_, fun z => ?_⟩, q.2⟩) (fun E q => ?_)
  · have := q.1
    rw [if_pos z] at this
    exact absurd this (by decide)
  · have := q.1
    by_cases z2 : B 43 a b < m
    · rw [if_pos z2] at this; exact absurd this (by decide)
    · rw [if_neg z2, if_pos z] at this; exact absurd this (by decide)
  · obtain ⟨q9, q1, q2, q3⟩ := q
    simp only [List.mem_cons, List.not_mem_nil, or_false] at q1
    by_cases z : B 43 a b < m
    · rw [if_pos z] at q3
      rcases q1 with rfl | rfl | rfl
      · exact absurd q3 (by decide)
      · exact Or.inl ⟨q2, z⟩
      · exact absurd q3 (by decide)
    · rw [if_neg z] at q3
      by_cases z2 : B 41 0 a < m
      · rw [if_pos z2] at q3
        rcases q1 with rfl | rfl | rfl
        · exact absurd q3 (by decide)
        · exact absurd q3 (by decide)
        · exact Or.inr ⟨q2, z, z2⟩
      · rw [if_neg z2] at q3
        rcases q1 with rfl | rfl | rfl <;> exact absurd q3 (by decide)
set_option maxHeartbeats 1000000 in
theorem n_take {l : Launch} (hl0 : l.stackTraces = false) {Z : yL} {al : yAl} {sh : ySh} {S B : yS} {ns : Nat} {mu : Nat → Nat} {M T : Nat} (hY : YC Z al sh 3 ns mu) (h : IN S B ns mu M T) {i u : Nat} (hi : i < ns) (hu : u < 10) : Cq l yX2_takeOver wsX2_takeOver ({ frames := 7, cells := 4, slots := 24, locals := 112 }) 4 24 Z [.ref (al 0 0), .int (nI i), .int (nI u)] al sh S (yRp (¬ B 46 0 i = nI u ∧ B 49 0 i = 0 ∧ ¬ B 41 0 (B 44 0 u).toNatClampNeg < 1) al sh (some (.int (B 46 0 i))) (fTo S i (nI u))) (fun E => (E = xIA ∧ B 46 0 i = nI u) ∨ (E = xIS ∧ ¬ B 46 0 i = nI u ∧ ¬ B 49 0 i = 0) ∨ (E = xUO ∧ ¬ B 46 0 i = nI u ∧ B 49 0 i = 0 ∧ B 41 0 (B 44 0 u).toNatClampNeg < 1)) := by
  have hn := h.ns40
  have k := c_X2_takeOver hl0 (S := S) hY h.s11 h.hds (x := nI i) (u := nI u)
  have e4 : S 4 0 u = B 44 0 u := (h.2.1 u hu).1
  have hd : (B 44 0 u).toNatClampNeg < 4 := by rw [← e4]; exact ix_of (h.hds u hu)
  rw [nI_clamp (n := i) (by omega), nI_clamp (n := u) (by omega), e4, show S 5 0 (B 44 0 u).toNatClampNeg = B 41 0 (B 44 0 u).toNatClampNeg from h.2.2.1 _ hd, show S 21 i 4 = B 46 0 i from (h.2.2.2.2.1 i hi).2.2.1] at k
  have kk : kTake ns (nI i) (nI u) (B 46 0 i) (S 21 i 6 = 97) (B 41 0 (B 44 0 u).toNatClampNeg) = if B 46 0 i = nI u then 2 else if B 49 0 i = 0 then (if B 41 0 (B 44 0 u).toNatClampNeg < 1 then 4 else 0) else 3 := by
    unfold kTake
    rw [if_neg (oN_in hi (by omega))]
    by_cases z : B 46 0 i = nI u
    · rw [if_pos (Or.inr z), if_pos z]
    · rw [if_neg (fun q => q.elim (oR_in (m := 9) (by decide) (by omega) (by decide)) z), if_neg z]
      by_cases z2 : B 49 0 i = 0
      · rw [if_pos ((h.live hi).mpr z2), if_pos z2]
      · rw [if_neg (fun q => z2 ((h.live hi).mp q)), if_neg z2]
  rw [kk] at k
  refine k.mono (fun v al1 sh1 S1 q => ⟨?_, q.2⟩) (fun E q => ?_)
  · have := q.1
    by_cases z : B 46 0 i = nI u
    · rw [if_pos z] at this; exact absurd this (by decide)
    · rw [if_neg z] at this
      by_cases z2 : B 49 0 i = 0
      · rw [if_pos z2] at this
        by_cases z3 : B 41 0 (B 44 0 u).toNatClampNeg < 1
        · rw [if_pos z3] at this; exact absurd this (by decide)
        · exact ⟨z, z2, z3⟩
      · rw [if_neg z2] at this; exact absurd this (by decide)
  · obtain ⟨q9, q1, q2, q3⟩ := q
    simp only [List.mem_cons, List.not_mem_nil, or_false] at q1
    by_cases z : B 46 0 i = nI u
    · rw [if_pos z] at q3
      rcases q1 with rfl | rfl | rfl | rfl
      · exact absurd q3 (by decide)
      · exact Or.inl ⟨q2, z⟩
      · exact absurd q3 (by decide)
      · exact absurd q3 (by decide)
    · rw [if_neg z] at q3
      by_cases z2 : B 49 0 i = 0
      · rw [if_pos z2] at q3
        by_cases z3 : B 41 0 (B 44 0 u).toNatClampNeg < 1
        · rw [if_pos z3] at q3
          rcases q1 with rfl | rfl | rfl | rfl
          · exact absurd q3 (by decide)
          · exact absurd q3 (by decide)
          · exact absurd q3 (by decide)
          · exact Or.inr (Or.inr ⟨q2, z, z2, z3⟩)
        · rw [if_neg z3] at q3
          rcases q1 with rfl | rfl | rfl | rfl <;> exact absurd q3 (by decide)
      · rw [if_neg z2] at q3
        rcases q1 with rfl | rfl | rfl | rfl
        · exact absurd q3 (by decide)
        · exact absurd q3 (by decide)
        · exact Or.inr (Or.inl ⟨q2, z, z2⟩)
        · exact absurd q3 (by decide)
set_option maxHeartbeats 1000000 in
theorem n_print {l : Launch} (hl0 : l.stackTraces = false) {Z : yL} {al : yAl} {sh : ySh} {S B : yS} {ns : Nat} {mu : Nat → Nat} {M T : Nat} (hY : YC Z al sh 3 ns mu) (h : IN S B ns mu M T) {i : Nat} {g : Int32} (hi : i < ns) (hg : 1 ≤ g.toInt ∧ g.toInt ≤ 9) : Cq l yX2_print wsX2_print ({ frames := 7, cells := 4, slots := 24, locals := 112 }) 4 24 Z [.ref (al 0 0), .int (nI i), .int g] al sh S (yRp (B 49 0 i = 0 ∧ ¬ B 41 0 (bDep B i) < g * 2) al sh (some (.int (B 40 0 10 + g))) (fPrint S (mu i) i g)) (fun E => (E = xIS ∧ ¬ B 49 0 i = 0) ∨ (E = xUO ∧ B 49 0 i = 0 ∧ B 41 0 (bDep B i) < g * 2)) := by
  have hn := h.ns40
  have k := c_X2_print hl0 (S := S) hY h.s11 h.hcs h.hds h.hrs (x := nI i) (g := g)
  have hm := h.mac (h.2.2.2.2.1 i hi).2.2.2.2.1
  rw [nI_clamp (n := i) (by omega), ← (h.dep hi).1, show S 5 0 (bDep B i) = B 41 0 (bDep B i) from h.2.2.1 _ (by rw [(h.dep hi).1]; exact (h.dep hi).2), hm.2.1, show (1 : Int32).toNatClampNeg = 1 by decide, show S 3 0 1 = B 40 0 10 from h.1.2.2] at k
  have og : ¬ oR 1 99 g := by
    rintro (q | q)
    · rw [Int32.lt_iff_toInt_lt, show (1 : Int32).toInt = 1 by decide] at q; omega
    · rw [Int32.lt_iff_toInt_lt, show (99 : Int32).toInt = 99 by decide] at q; omega
  have kk : kPrint ns (nI i) g (S 21 i 6 = 97) (B 41 0 (bDep B i)) = if B 49 0 i = 0 then (if B 41 0 (bDep B i) < g * 2 then 4 else 0) else 3 := by
    unfold kPrint
    rw [if_neg (oN_in hi (by omega)), if_neg og]
    by_cases z2 : B 49 0 i = 0
    · rw [if_pos ((h.live hi).mpr z2), if_pos z2]
    · rw [if_neg (fun q => z2 ((h.live hi).mp q)), if_neg z2]
  rw [kk] at k
  refine k.mono (fun v al1 sh1 S1 q => ⟨?_, q.2⟩) (fun E q => ?_)
  · have := q.1
    by_cases z2 : B 49 0 i = 0
    · rw [if_pos z2] at this
      by_cases z3 : B 41 0 (bDep B i) < g * 2
      · rw [if_pos z3] at this; exact absurd this (by decide)
      · exact ⟨z2, z3⟩
    · rw [if_neg z2] at this; exact absurd this (by decide)
  · obtain ⟨q9, q1, q2, q3⟩ := q
    simp only [List.mem_cons, List.not_mem_nil, or_false] at q1
    by_cases z2 : B 49 0 i = 0
    · rw [if_pos z2] at q3
      by_cases z3 : B 41 0 (bDep B i) < g * 2
      · rw [if_pos z3] at q3
        rcases q1 with rfl | rfl | rfl | rfl
        · exact absurd q3 (by decide)
        · exact absurd q3 (by decide)
        · exact absurd q3 (by decide)
        · exact Or.inr ⟨q2, z2, z3⟩
      · rw [if_neg z3] at q3
        rcases q1 with rfl | rfl | rfl | rfl <;> exact absurd q3 (by decide)
    · rw [if_neg z2] at q3
      rcases q1 with rfl | rfl | rfl | rfl
      · exact absurd q3 (by decide)
      · exact absurd q3 (by decide)
      · exact Or.inl ⟨q2, z2⟩
      · exact absurd q3 (by decide)
set_option maxHeartbeats 1000000 in
theorem n_hand {l : Launch} (hl0 : l.stackTraces = false) {Z : yL} {al : yAl} {sh : ySh} {S B : yS} {ns : Nat} {mu : Nat → Nat} {M T : Nat} (hY : YC Z al sh 3 ns mu) (h : IN S B ns mu M T) {i : Nat} (hi : i < ns) (hl : B 49 0 i = 0) (hne : ¬ B 46 0 i = B 45 0 i) : Ct l yX2_handBack wsX2_handBack ({ frames := 8, cells := 3, slots := 18, locals := 133 }) 3 18 Z [.ref (al 0 0), .int (nI i)] al sh S (yR al sh (some (.int (B 46 0 i))) (fTo S i (S 21 i 0))) := by
  have hn := h.ns40
  have k := c_X2_handBack hl0 (S := S) hY h.s11 (x := nI i)
  rw [nI_clamp (n := i) (by omega), show S 21 i 4 = B 46 0 i from (h.2.2.2.2.1 i hi).2.2.1] at k
  refine k.ctR (yx_no ?_ (by decide)) rfl
  unfold kHand
  rw [if_neg (oN_in hi (by omega)), if_pos ((h.live hi).mpr hl), if_neg (by rw [(h.2.2.2.2.1 i hi).1]; exact hne)]
set_option maxHeartbeats 1000000 in
theorem n_out {l : Launch} (hl0 : l.stackTraces = false) {Z : yL} {al : yAl} {sh : ySh} {S B : yS} {ns : Nat} {mu : Nat → Nat} {M T : Nat} (hY : YC Z al sh 3 ns mu) (h : IN S B ns mu M T) {i : Nat} (hi : i < ns) (hl : B 49 0 i = 0) : Ct l yX2_logOut wsX2_logOut ({ frames := 8, cells := 2, slots := 12, locals := 133 }) 2 12 Z [.ref (al 0 0), .int (nI i)] al sh S (yR al sh (some (.int (B 51 i 0 + B 51 i 1 + B 51 i 2 + B 51 i 3))) (fEnd S (mu i) i 108)) := by
  have hn := h.ns40
  have k := c_X2_logOut hl0 (S := S) hY h.s11 (x := nI i)
  rw [nI_clamp (n := i) (by omega)] at k
  refine k.ctR (yx_no ?_ (by decide)) (vI ?_)
  · unfold kLive
    rw [if_neg (oN_in hi (by omega)), if_pos ((h.live hi).mpr hl)]
  · have hC := h.2.2.2.2.2.1
    unfold qIn
    rw [fEnd_o (by decide) (by omega), fEnd_o (by decide) (by omega), fEnd_o (by decide) (by omega), fEnd_o (by decide) (by omega), show S 22 i 0 = B 51 i 0 from hC i 0 hi (by omega), show S 22 i 1 = B 51 i 1 from hC i 1 hi (by omega), show S 22 i 2 = B 51 i 2 from hC i 2 hi (by omega), show S 22 i 3 = B 51 i 3 from hC i 3 hi (by omega)]
    grind
set_option maxHeartbeats 1000000 in
theorem n_pass {l : Launch} (hl0 : l.stackTraces = false) {Z : yL} {al : yAl} {sh : ySh} {S B : yS} {ns : Nat} {mu : Nat → Nat} {M T : Nat} (hY : YC Z al sh 3 ns mu) (h : IN S B ns mu M T) {k : Nat} (hk : 1 ≤ k ∧ k ≤ 12) (hT : T ≤ 4000) : Ct l yX2_pass wsX2_pass ({ frames := 6, cells := 1, slots := 6, locals := 90 }) 1 6 Z [.ref (al 0 0), .int (nI k)] al sh S (yR al sh (some (.int (lEnd mu ns S 0 k))) (lPass mu ns S k)) := by
  have q := c_X2_pass hl0 (S := S) hY h.ci (x := nI k)
  rw [nI_clamp (n := k) (by omega)] at q
  have hH := h.2.2.2.2.2.2.2.2.2.2.2.2.2.2
  have e1 : (nI k).toInt = k := nI_toInt (by omega)
  refine q.ctR (yx_no ?_ (by decide)) rfl
  unfold kPass
  rw [if_neg]
  rintro ((z | z) | z)
  · rw [Int32.lt_iff_toInt_lt, show (1 : Int32).toInt = 1 by decide, e1] at z; omega
  · rw [Int32.lt_iff_toInt_lt, show (60 : Int32).toInt = 60 by decide, e1] at z; omega
  · rw [Int32.lt_iff_toInt_lt, show (5000 : Int32).toInt = 5000 by decide, i32_add (by rw [e1]; omega) hH.1 (by rw [e1]; have := hH.2; omega), e1] at z
    have := hH.2
    omega
set_option maxHeartbeats 1000000 in
theorem n_login {l : Launch} (hl0 : l.stackTraces = false) {Z : yL} {al : yAl} {sh : ySh} {S B : yS} {ns : Nat} {mu : Nat → Nat} {M T : Nat} (hY : YC Z al sh 3 ns mu) (h : IN S B ns mu M T) (hFr : yFree sh 3 ns) {u : Nat} (hu : u < 10) : Cq l yX2_logIn wsX2_logIn ({ frames := 7, cells := 7, slots := 100, locals := 171 }) 7 100 Z [.ref (al 0 0), .int (nI u), .int 0] al sh S (fun v9 al9 sh9 S9 => ¬ (ns = 40 ∨ lOwns S (nI u) 0 ns = true) ∧ ¬ B 41 0 (B 44 0 u).toNatClampNeg < 1 ∧ lPost Z al sh S 3 ns mu (nI u) 0 v9 al9 sh9 S9) (fun E => (E = xIS ∧ (ns = 40 ∨ lOwns S (nI u) 0 ns = true)) ∨ (E = xUO ∧ ¬ (ns = 40 ∨ lOwns S (nI u) 0 ns = true) ∧ B 41 0 (B 44 0 u).toNatClampNeg < 1)) := by
  have hn := h.ns40
  have k := c_X2_logIn hl0 (S := S) hY h.s9 h.s11 hFr h.hds (u := nI u) (p := 0)
  have e4 : S 4 0 u = B 44 0 u := (h.2.1 u hu).1
  have hd : (B 44 0 u).toNatClampNeg < 4 := by rw [← e4]; exact ix_of (h.hds u hu)
  have ecl : (nI u).toNatClampNeg = u := nI_clamp (by omega)
  obtain ⟨bm, hbm⟩ := Option.ne_none_iff_exists'.mp h.best
  have kk : kIn (nI u) 0 (lOwns S (nI u) 0 ns = true) ns (S 5 0 (S 4 0 (nI u).toNatClampNeg).toNatClampNeg) (lBest S 0 0 none 3) = if ns = 40 ∨ lOwns S (nI u) 0 ns = true then 2 else if B 41 0 (B 44 0 u).toNatClampNeg < 1 then 3 else 0 := by
    rw [ecl, e4, show S 5 0 (B 44 0 u).toNatClampNeg = B 41 0 (B 44 0 u).toNatClampNeg from h.2.2.1 _ hd, hbm]
    unfold kIn
    rw [if_neg (fun q => q.elim (oR_in (m := 9) (by decide) (by omega) (by decide)) (by decide))]
    by_cases z : ns = 40 ∨ lOwns S (nI u) 0 ns = true
    · rw [if_pos z, if_pos (z.elim (fun q => Or.inr (by omega)) Or.inl)]
    · rw [if_neg z, if_neg (fun q => z (q.elim Or.inr (fun q => Or.inl (by omega))))]
  refine k.mono (fun v al1 sh1 S1 q => ?_) (fun E q => ?_)
  · obtain ⟨m, q1, q2, q3, q4⟩ := id q
    rw [kk] at q3
    by_cases z : ns = 40 ∨ lOwns S (nI u) 0 ns = true
    · rw [if_pos z] at q3; exact absurd q3 (by decide)
    · rw [if_neg z] at q3
      by_cases z2 : B 41 0 (B 44 0 u).toNatClampNeg < 1
      · rw [if_pos z2] at q3; exact absurd q3 (by decide)
      · exact ⟨z, z2, q⟩
  · obtain ⟨q9, q1, q2, q3⟩ := q
    rw [kk] at q3
    simp only [List.mem_cons, List.not_mem_nil, or_false] at q1
    by_cases z : ns = 40 ∨ lOwns S (nI u) 0 ns = true
    · rw [if_pos z] at q3
      rcases q1 with rfl | rfl | rfl | rfl
      · exact absurd q3 (by decide)
      · exact Or.inl ⟨q2, z⟩
      · exact absurd q3 (by decide)
      · exact absurd q3 (by decide)
    · rw [if_neg z] at q3
      by_cases z2 : B 41 0 (B 44 0 u).toNatClampNeg < 1
      · rw [if_pos z2] at q3
        rcases q1 with rfl | rfl | rfl | rfl
        · exact absurd q3 (by decide)
        · exact absurd q3 (by decide)
        · exact Or.inr ⟨q2, z, z2⟩
        · exact absurd q3 (by decide)
      · rw [if_neg z2] at q3
        rcases q1 with rfl | rfl | rfl | rfl <;> exact absurd q3 (by decide)
