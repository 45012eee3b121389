theorem lSum_g (S : yS) : ∀ (k i : Nat) (a : Int32), lSum S i a k = gSum (S 22) i a k := by
  intro k
  induction k with
  | zero => intro i a; rfl
  | succ k ih => exact fun i a => ih (i + 1) _
theorem cmp_self64 {x : UInt64} (h : vf_n64 x) : Op.cmpValue (FP.dcmp x x) .l = 0 := by
  have h1 : x.toNat % 2 ^ 63 ≤ 9218868437227405312 := by
    unfold vf_n64 at h
    rw [UInt64.le_iff_toNat_le, UInt64.toNat_and] at h
    change x.toNat &&& (2 ^ 63 - 1) ≤ 9218868437227405312 at h
    rw [Nat.and_two_pow_sub_one_eq_mod] at h
    exact h
  have h2 : Jvm.FP.Core.dIsNaN x = false := by
    cases e : Jvm.FP.Core.dIsNaN x with
    | false => rfl
    | true =>
      rw [Jvm.FP.Core.isNaN_bits] at e
      omega
  have h3 := Jvm.FP.Core.dcmp_self ((Jvm.FP.Core.notNaN_iff x).mp h2)
  rw [show FP.dcmp x x = some .eq from h3]
  rfl
abbrev kc_addMachine (S : yS) (nm ns : Nat) (mu : Nat → Nat) (a1 a2 a3 : Int32) : Int32 := kAdd a1 a2 a3 nm
abbrev kc_logIn (S : yS) (nm ns : Nat) (mu : Nat → Nat) (a1 a2 : Int32) : Int32 := kIn a1 a2 (lOwns S a1 0 ns = true) ns (S 5 0 (S 4 0 a1.toNatClampNeg).toNatClampNeg) (lBest S a2 0 none nm)
abbrev km_addMachine (S : yS) (nm ns : Nat) (mu : Nat → Nat) (a1 : Int32) (a2 : Int32) (a3 : Int32) : Int32 := (kAdd a1 a2 a3 nm)
abbrev rm_addMachine (S : yS) (nm ns : Nat) (mu : Nat → Nat) (a1 : Int32) (a2 : Int32) (a3 : Int32) : Int32 := (nI nm)
abbrev sm_addMachine (S : yS) (nm ns : Nat) (mu : Nat → Nat) (a1 : Int32) (a2 : Int32) (a3 : Int32) : yS := (sup (sup (sup (sup (sup (sup S 40 0 0 0) 45 0 nm a1) 46 0 nm a2) 47 0 nm a3) 48 0 nm 117) 40 0 4 (nI nm + 1))
def P_addMachine (S : yS) (nm ns : Nat) (mu : Nat → Nat) (K : Nat) (a1 : Int32) (a2 : Int32) (a3 : Int32) : Prop := kc_addMachine S nm ns mu a1 a2 a3 = km_addMachine S nm ns mu a1 a2 a3 ∧ (kc_addMachine S nm ns mu a1 a2 a3 ≠ 0 → IN (sup S 40 0 0 (kc_addMachine S nm ns mu a1 a2 a3)) nm ns mu (K + 5000)) ∧ (kc_addMachine S nm ns mu a1 a2 a3 = 0 → ∀ S9 : yS, S9 9 0 2 = nI (nm + 1) → (∀ j, S9 20 nm j = fMac (szero S 20 nm) nm (nI nm) a1 a2 a3 20 nm j) → (∀ a b j, a ≠ 9 → a ≠ 10 → ¬ (a = 20 ∧ b = nm) → S9 a b j = S a b j) → XI S9 nm ns ∧ km_addMachine S9 nm ns mu a1 a2 a3 = 0 ∧ rm_addMachine S9 nm ns mu a1 a2 a3 = nI nm ∧ sm_addMachine S9 nm ns mu a1 a2 a3 40 0 0 = 0 ∧ IN (sm_addMachine S9 nm ns mu a1 a2 a3) (nm + 1) ns mu (K + 5000))
set_option maxHeartbeats 4000000 in
set_option maxRecDepth 100000 in
theorem l_addMachine {p : Program} {l : Launch} {e : Env} {R : Room} {s : State} {m : MethodId} {args : Array Value} {below : List Frame} {meth : Method} {c : Code} {cells slots : Nat} {Q : State → Prop} {Z : yL} {al : yAl} {sh : ySh} {S : yS} {b L t K x0 m0 o0 d0 : Nat} {xs : Nat → Int32} (hl0 : l.stackTraces = false) (cx : Cx p s m args c code 9 RL wsL_law Z) (hX : va_X b L xs s s.heap) (hb0 : b < s.heap.size ∧ ¬ Z.2.2.1 ≤ b) (hR : 20 ≤ R.frames ∧ 10000 ≤ R.locals ∧ cells + 20 ≤ R.cells ∧ slots + 300 ≤ R.slots) (ht : 4 * t + 4 ≤ L ∧ L ≤ 2048) (hW : WI Z x0 m0 o0 d0 K al sh S) (hp : ∀ nm ns mu, IN S nm ns mu K → P_addMachine S nm ns mu K (xs (4 * t + 1)) (xs (4 * t + 2)) (xs (4 * t + 3))) (hk : ∀ al9 sh9 S9, WI Z x0 m0 o0 d0 (K + 5000) al9 sh9 S9 → J p l e R s m args below meth c 9 Z (cells + 20) (slots + 300) Q al9 sh9 S9 1884 [(0, .ref b), (1, .ref x0), (2, .ref m0), (3, .ref o0), (4, .ref d0), (5, .int (nI (4 * t)))] []) : J p l e R s m args below meth c 9 Z cells slots Q al sh S 172 [(0, .ref b), (1, .ref x0), (2, .ref m0), (3, .ref o0), (4, .ref d0), (5, .int (nI (4 * t)))] [] := by
  obtain ⟨rfl, rfl, rfl, rfl, ⟨fo, hO⟩, hD, hXM, nm, ns, mu, hY, hFr, hN⟩ := hW
  obtain ⟨hp1, hp2, hp3⟩ := hp nm ns mu hN
  refine j_aload_n (j := 1) cx dL_law_172 rfl rfl (pc' := 173) rfl ?_
  refine j_aload_n (j := 0) cx dL_law_173 rfl rfl (pc' := 174) rfl ?_
  refine j_iload (j := 5) cx dL_law_174 rfl (pc' := 176) rfl ?_
  refine j_iconst (v := 1) cx dL_law_176 (by decide) (pc' := 177) rfl ?_
  refine j_iadd cx dL_law_177 (pc' := 178) rfl ?_
  refine j_sld (n := 4 * t + 1) cx hX hb0 (nI_add (4 * t) 1) (by omega) dL_law_178 (pc' := 179) rfl ?_
  refine j_aload_n (j := 0) cx dL_law_179 rfl rfl (pc' := 180) rfl ?_
  refine j_iload (j := 5) cx dL_law_180 rfl (pc' := 182) rfl ?_
  refine j_iconst (v := 2) cx dL_law_182 (by decide) (pc' := 183) rfl ?_
  refine j_iadd cx dL_law_183 (pc' := 184) rfl ?_
  refine j_sld (n := 4 * t + 2) cx hX hb0 (nI_add (4 * t) 2) (by omega) dL_law_184 (pc' := 185) rfl ?_
  refine j_aload_n (j := 0) cx dL_law_185 rfl rfl (pc' := 186) rfl ?_
  refine j_iload (j := 5) cx dL_law_186 rfl (pc' := 188) rfl ?_
  refine j_iconst (v := 3) cx dL_law_188 (by decide) (pc' := 189) rfl ?_
  refine j_iadd cx dL_law_189 (pc' := 190) rfl ?_
  refine j_sld (n := 4 * t + 3) cx hX hb0 (nI_add (4 * t) 3) (by omega) dL_law_190 (pc' := 191) rfl ?_
  refine j_aload_n (j := 3) cx dL_law_191 rfl rfl (pc' := 192) rfl ?_
  refine j_cSW (cells1 := cells + 3) (slots1 := slots + 78) (As := [.ref (al 0 0), .int (xs (4 * t + 1)), .int (xs (4 * t + 2)), .int (xs (4 * t + 3)), .ref (al 70 0)]) (rest := []) cx (c_L_addMachine hl0 hY hN.2.1.1 hFr hO) gL_law_L_addMachine rfl rfl rfl 5 rfl (by decide +kernel) ⟨(by show 8 + 1 ≤ _; omega), (by show 8 + (6 + 11) + 195 ≤ _; omega)⟩ rfl (Nat.le_of_ble_eq_true rfl) dL_law_192 ⟨by omega, by omega⟩ (pc' := 195) rfl rfl rfl (fun v9 al9 sh9 S9 h9 => ?_)
  obtain ⟨e1, h9⟩ := h9
  subst v9
  by_cases hk0 : kc_addMachine S nm ns mu (xs (4 * t + 1)) (xs (4 * t + 2)) (xs (4 * t + 3)) = 0
  · rw [if_pos hk0] at h9
    obtain ⟨sh0, e3, hO0, hq9⟩ := h9
    subst sh9
    obtain ⟨-, -, hY9, hFr9, hk4, hx0, f1, f2, f3⟩ := hq9
    have g40 := (hk4 40 0 (by decide)).1
    have g70 := (hk4 70 0 (by decide)).1
    rw [← g40, ← g70]
    obtain ⟨q1, q2, q3, q4, q5⟩ := hp3 hk0 S9 f1 f2 f3
    refine J.stk (st2 := [.int 0]) (congrArg (fun z => [Value.int z]) hk0) ?_
    have hXM1 : YM Z (shp sh0 70 0 (yLo Z (vp_updL fo 0 (nI nm).toInt64))) := (hXM.to (fun a h1 h2 => (hk4 a 0 h1).2)).out (by decide)
    refine j_istore (lv' := [(6, .int 0), (0, .ref b), (1, .ref (al 0 0)), (2, .ref (al9 40 0)), (3, .ref (al9 70 0)), (4, .ref (al 71 0)), (5, .int (nI (4 * t)))]) cx dL_law_195 (by decide) rfl (pc' := 197) rfl ?_
    refine j_aload_n (j := 3) cx dL_law_197 rfl rfl (pc' := 198) rfl ?_
    refine j_aload_n (j := 1) cx dL_law_198 rfl rfl (pc' := 199) rfl ?_
    refine j_iload (j := 6) cx dL_law_199 rfl (pc' := 201) rfl ?_
    refine j_iconst (v := 1) cx dL_law_201 (by decide) (pc' := 202) rfl ?_
    refine j_iadd cx dL_law_202 (pc' := 203) rfl ?_
    refine j_sld (n := 4 * t + 1) cx hX hb0 (nI_add (4 * t) 1) (by omega) dL_law_203 (pc' := 204) rfl ?_
    refine j_aload_n (j := 1) cx dL_law_204 rfl rfl (pc' := 205) rfl ?_
    refine j_iload (j := 6) cx dL_law_205 rfl (pc' := 207) rfl ?_
    refine j_iconst (v := 2) cx dL_law_207 (by decide) (pc' := 208) rfl ?_
    refine j_iadd cx dL_law_208 (pc' := 209) rfl ?_
    refine j_sld (n := 4 * t + 2) cx hX hb0 (nI_add (4 * t) 2) (by omega) dL_law_209 (pc' := 210) rfl ?_
    refine j_aload_n (j := 1) cx dL_law_210 rfl rfl (pc' := 211) rfl ?_
    refine j_iload (j := 6) cx dL_law_211 rfl (pc' := 213) rfl ?_
    refine j_iconst (v := 3) cx dL_law_213 (by decide) (pc' := 214) rfl ?_
    refine j_iadd cx dL_law_214 (pc' := 215) rfl ?_
    refine j_sld (n := 4 * t + 3) cx hX hb0 (nI_add (4 * t) 3) (by omega) dL_law_215 (pc' := 216) rfl ?_
    refine j_cVP (cells1 := cells + 3 + 0) (slots1 := slots + 78 + 0) (As := [.int (xs (4 * t + 1)), .int (xs (4 * t + 2)), .int (xs (4 * t + 3))]) (rest := []) cx (c_X3_addMachine hXM1 q1) gL_law_X3_addMachine rfl rfl rfl 3 rfl (by decide +kernel) ⟨(by show 2 + 1 ≤ _; omega), (by show 8 + (4 + 11) + 42 ≤ _; omega)⟩ hXM1.1 rfl rfl rfl rfl (Nat.le_of_ble_eq_true rfl) dL_law_216 ⟨by omega, by omega⟩ (pc' := 219) rfl rfl rfl (fun v9 al8 sh8 S8 h9 => ?_)
    obtain ⟨e1, e2, h9⟩ := h9
    subst al8 sh8
    rw [if_pos q2] at h9
    obtain ⟨e5, e6⟩ := h9
    subst v9 S8
    refine J.stk (st2 := [.int (nI nm)]) (congrArg (fun z => [Value.int z]) q3) ?_
    refine j_istore (lv' := [(7, .int (nI nm)), (6, .int 0), (0, .ref b), (1, .ref (al 0 0)), (2, .ref (al9 40 0)), (3, .ref (al9 70 0)), (4, .ref (al 71 0)), (5, .int (nI (4 * t)))]) cx dL_law_219 (by decide) rfl (pc' := 221) rfl ?_
    refine j_aload_n (j := 4) cx dL_law_221 rfl rfl (pc' := 222) rfl ?_
    refine j_cVP (cells1 := cells + 3 + 0 + 0) (slots1 := slots + 78 + 0 + 0) (As := []) (rest := []) cx (c_X3_thrown hXM1) gL_law_X3_thrown rfl rfl rfl 0 rfl (by decide +kernel) ⟨(by show 0 + 1 ≤ _; omega), (by show 8 + (1 + 11) + 0 ≤ _; omega)⟩ hXM1.1 rfl rfl rfl rfl (Nat.le_of_ble_eq_true rfl) dL_law_222 ⟨by omega, by omega⟩ (pc' := 225) rfl rfl rfl (fun v9 al8 sh8 S8 h9 => ?_)
    obtain ⟨e1, e2, e3, e4⟩ := h9
    subst v9 al8 sh8 S8
    refine J.stk (st2 := [.int 0]) (congrArg (fun z => [Value.int z]) q4) ?_
    refine j_iload (j := 1) cx dL_law_225 rfl (pc' := 227) rfl ?_
    refine j_icmp_eq (tgt := 232) cx dL_law_227 (by decide) (pc' := 230) rfl (fun _ => ?_) (fun h => absurd rfl h)
    refine j_iload (j := 1) cx dL_law_232 rfl (pc' := 234) rfl ?_
    refine j_if_ne (tgt := 249) cx dL_law_234 (by decide) (pc' := 237) rfl (fun h => absurd rfl h) (fun _ => ?_)
    refine j_aload_n (j := 5) cx dL_law_237 rfl rfl (pc' := 238) rfl ?_
    refine j_iconst (v := 0) cx dL_law_238 (by decide) (pc' := 239) rfl ?_
    refine j_laldX cx (shp_self _ _ _ _) rfl rfl dL_law_239 (pc' := 240) rfl ?_
    refine j_iload (j := 0) cx dL_law_240 rfl (pc' := 242) rfl ?_
    refine j_i2l cx dL_law_242 rfl (pc' := 243) rfl ?_
    refine j_lcmp cx dL_law_243 (pc' := 244) rfl ?_
    refine j_if_eq (tgt := 249) cx dL_law_244 (by decide) (pc' := 247) rfl (fun _ => ?_) (fun h => absurd (lcmp_self _) h)
    refine j_goto (tgt := 1884) cx dL_law_249 (by decide) ?_
    rw [g40, g70]
    refine J.sub [2, 3, 4, 5, 6, 7] rfl (J.widen (k := cells + 20) (n := slots + 300) (by omega) (by omega) (hk _ _ _ ?_))
    exact ⟨hx0, g40, g70, (hk4 71 0 (by decide)).1, ⟨_, shp_self _ _ _ _⟩, hD.imp (fun f hf => (shp_ne _ _ (by omega)).trans ((hk4 71 0 (by decide)).2.trans hf)), hXM1, (nm + 1), ns, mu, hY9.out (by decide), hFr9.out (by decide), q5⟩
  · rw [if_neg hk0] at h9
    obtain ⟨e2, e3, e4⟩ := h9
    subst al9 sh9 S9
    have hXM1 := hXM
    refine J.stk (st2 := [.int (kc_addMachine S nm ns mu (xs (4 * t + 1)) (xs (4 * t + 2)) (xs (4 * t + 3)))]) rfl ?_
    refine j_istore (lv' := [(6, .int (kc_addMachine S nm ns mu (xs (4 * t + 1)) (xs (4 * t + 2)) (xs (4 * t + 3)))), (0, .ref b), (1, .ref (al 0 0)), (2, .ref (al 40 0)), (3, .ref (al 70 0)), (4, .ref (al 71 0)), (5, .int (nI (4 * t)))]) cx dL_law_195 (by decide) rfl (pc' := 197) rfl ?_
    refine j_aload_n (j := 3) cx dL_law_197 rfl rfl (pc' := 198) rfl ?_
    refine j_aload_n (j := 1) cx dL_law_198 rfl rfl (pc' := 199) rfl ?_
    refine j_iload (j := 6) cx dL_law_199 rfl (pc' := 201) rfl ?_
    refine j_iconst (v := 1) cx dL_law_201 (by decide) (pc' := 202) rfl ?_
    refine j_iadd cx dL_law_202 (pc' := 203) rfl ?_
    refine j_sld (n := 4 * t + 1) cx hX hb0 (nI_add (4 * t) 1) (by omega) dL_law_203 (pc' := 204) rfl ?_
    refine j_aload_n (j := 1) cx dL_law_204 rfl rfl (pc' := 205) rfl ?_
    refine j_iload (j := 6) cx dL_law_205 rfl (pc' := 207) rfl ?_
    refine j_iconst (v := 2) cx dL_law_207 (by decide) (pc' := 208) rfl ?_
    refine j_iadd cx dL_law_208 (pc' := 209) rfl ?_
    refine j_sld (n := 4 * t + 2) cx hX hb0 (nI_add (4 * t) 2) (by omega) dL_law_209 (pc' := 210) rfl ?_
    refine j_aload_n (j := 1) cx dL_law_210 rfl rfl (pc' := 211) rfl ?_
    refine j_iload (j := 6) cx dL_law_211 rfl (pc' := 213) rfl ?_
    refine j_iconst (v := 3) cx dL_law_213 (by decide) (pc' := 214) rfl ?_
    refine j_iadd cx dL_law_214 (pc' := 215) rfl ?_
    refine j_sld (n := 4 * t + 3) cx hX hb0 (nI_add (4 * t) 3) (by omega) dL_law_215 (pc' := 216) rfl ?_
    refine j_cVP (cells1 := cells + 3 + 0) (slots1 := slots + 78 + 0) (As := [.int (xs (4 * t + 1)), .int (xs (4 * t + 2)), .int (xs (4 * t + 3))]) (rest := []) cx (c_X3_addMachine hXM1 hN.1) gL_law_X3_addMachine rfl rfl rfl 3 rfl (by decide +kernel) ⟨(by show 2 + 1 ≤ _; omega), (by show 8 + (4 + 11) + 42 ≤ _; omega)⟩ hXM1.1 rfl rfl rfl rfl (Nat.le_of_ble_eq_true rfl) dL_law_216 ⟨by omega, by omega⟩ (pc' := 219) rfl rfl rfl (fun v9 al9 sh9 S9 h9 => ?_)
    obtain ⟨e1, e2, h9⟩ := h9
    subst al9 sh9
    have hm0 : ¬ km_addMachine S nm ns mu (xs (4 * t + 1)) (xs (4 * t + 2)) (xs (4 * t + 3)) = 0 := by rw [← hp1]; exact hk0
    rw [if_neg hm0] at h9
    obtain ⟨e5, e6⟩ := h9
    subst v9 S9
    refine J.stk (st2 := [.int 0]) rfl ?_
    refine j_istore (lv' := [(7, .int 0), (6, .int (kc_addMachine S nm ns mu (xs (4 * t + 1)) (xs (4 * t + 2)) (xs (4 * t + 3)))), (0, .ref b), (1, .ref (al 0 0)), (2, .ref (al 40 0)), (3, .ref (al 70 0)), (4, .ref (al 71 0)), (5, .int (nI (4 * t)))]) cx dL_law_219 (by decide) rfl (pc' := 221) rfl ?_
    refine j_aload_n (j := 4) cx dL_law_221 rfl rfl (pc' := 222) rfl ?_
    refine j_cVP (cells1 := cells + 3 + 0 + 0) (slots1 := slots + 78 + 0 + 0) (As := []) (rest := []) cx (c_X3_thrown hXM1) gL_law_X3_thrown rfl rfl rfl 0 rfl (by decide +kernel) ⟨(by show 0 + 1 ≤ _; omega), (by show 8 + (1 + 11) + 0 ≤ _; omega)⟩ hXM1.1 rfl rfl rfl rfl (Nat.le_of_ble_eq_true rfl) dL_law_222 ⟨by omega, by omega⟩ (pc' := 225) rfl rfl rfl (fun v9 al9 sh9 S9 h9 => ?_)
    obtain ⟨e1, e2, e3, e4⟩ := h9
    subst v9 al9 sh9 S9
    refine J.stk (st2 := [.int (kc_addMachine S nm ns mu (xs (4 * t + 1)) (xs (4 * t + 2)) (xs (4 * t + 3)))]) (congrArg (fun z => [Value.int z]) ((sup_self _ _ _ _ _).trans hp1.symm)) ?_
    refine j_iload (j := 1) cx dL_law_225 rfl (pc' := 227) rfl ?_
    refine j_icmp_eq (tgt := 232) cx dL_law_227 (by decide) (pc' := 230) rfl (fun _ => ?_) (fun h => absurd rfl h)
    refine j_iload (j := 1) cx dL_law_232 rfl (pc' := 234) rfl ?_
    refine j_if_ne (tgt := 249) cx dL_law_234 (by decide) (pc' := 237) rfl (fun _ => ?_) (fun h => absurd h hk0)
    refine j_goto (tgt := 1884) cx dL_law_249 (by decide) ?_
    refine J.sub [2, 3, 4, 5, 6, 7] rfl (J.widen (k := cells + 20) (n := slots + 300) (by omega) (by omega) (hk _ _ _ ?_))
    exact ⟨rfl, rfl, rfl, rfl, ⟨fo, hO⟩, hD, hXM, nm, ns, mu, hY, hFr, Eq.mp (congrArg (fun z => IN (sup S 40 0 0 z) nm ns mu (K + 5000)) hp1) (hp2 hk0)⟩
abbrev km_logIn (S : yS) (nm ns : Nat) (mu : Nat → Nat) (a1 : Int32) (a2 : Int32) : Int32 := (xIn a1 a2 (¬ mOwns (S 59 0) (S 53 0) a1 0 0 ns = 0) ns (S 49 0 (S 51 0 a1.toNatClampNeg).toNatClampNeg) (mNx (S 59 0) (S 55 0) (S 45 0) (S 48 0) (S 47 0) a2 ns 0 (-1) nm))
abbrev rm_logIn (S : yS) (nm ns : Nat) (mu : Nat → Nat) (a1 : Int32) (a2 : Int32) : Int32 := (nI ns)
abbrev sm_logIn (S : yS) (nm ns : Nat) (mu : Nat → Nat) (a1 : Int32) (a2 : Int32) : yS := (sup (sup (sup (sup (sup (sup (sup S 40 0 0 0) 53 0 ns a1) 54 0 ns a1) 55 0 ns (mNx (S 59 0) (S 55 0) (S 45 0) (S 48 0) (S 47 0) a2 ns 0 (-1) nm)) 56 0 ns (S 40 0 1)) 57 0 ns (S 40 0 1)) 40 0 12 (nI ns + 1))
def P_logIn (S : yS) (nm ns : Nat) (mu : Nat → Nat) (K : Nat) (a1 : Int32) (a2 : Int32) : Prop := kc_logIn S nm ns mu a1 a2 = km_logIn S nm ns mu a1 a2 ∧ (kc_logIn S nm ns mu a1 a2 ≠ 0 → IN (sup S 40 0 0 (kc_logIn S nm ns mu a1 a2)) nm ns mu (K + 5000)) ∧ (kc_logIn S nm ns mu a1 a2 = 0 → ∀ (m9 : Nat) (S9 : yS), m9 < nm → lBest S a2 0 none nm = some m9 → S9 11 0 2 = nI (ns + 1) → S9 20 m9 5 = S 20 m9 5 + 1 → (∀ j, S9 21 ns j = fSes (szero S 21 ns) ns a1 (S 0 0 9) 21 ns j) → (∀ j, S9 22 ns j = 0) → (∀ a b j, a ≠ 11 → a ≠ 12 → ¬ ((a = 21 ∨ a = 22) ∧ b = ns) → ¬ (a = 20 ∧ b = m9 ∧ j = 5) → S9 a b j = S a b j) → XI S9 nm ns ∧ km_logIn S9 nm ns mu a1 a2 = 0 ∧ rm_logIn S9 nm ns mu a1 a2 = nI ns ∧ sm_logIn S9 nm ns mu a1 a2 40 0 0 = 0 ∧ IN (sm_logIn S9 nm ns mu a1 a2) nm (ns + 1) (fun i => if i = ns then m9 else mu i) (K + 5000))
set_option maxHeartbeats 4000000 in
set_option maxRecDepth 100000 in
theorem l_logIn {p : Program} {l : Launch} {e : Env} {R : Room} {s : State} {m : MethodId} {args : Array Value} {below : List Frame} {meth : Method} {c : Code} {cells slots : Nat} {Q : State → Prop} {Z : yL} {al : yAl} {sh : ySh} {S : yS} {b L t K x0 m0 o0 d0 : Nat} {xs : Nat → Int32} (hl0 : l.stackTraces = false) (cx : Cx p s m args c code 9 RL wsL_law Z) (hX : va_X b L xs s s.heap) (hb0 : b < s.heap.size ∧ ¬ Z.2.2.1 ≤ b) (hR : 20 ≤ R.frames ∧ 10000 ≤ R.locals ∧ cells + 20 ≤ R.cells ∧ slots + 300 ≤ R.slots) (ht : 4 * t + 4 ≤ L ∧ L ≤ 2048) (hW : WI Z x0 m0 o0 d0 K al sh S) (hp : ∀ nm ns mu, IN S nm ns mu K → P_logIn S nm ns mu K (xs (4 * t + 1)) (xs (4 * t + 2))) (hk : ∀ al9 sh9 S9, WI Z x0 m0 o0 d0 (K + 5000) al9 sh9 S9 → J p l e R s m args below meth c 9 Z (cells + 20) (slots + 300) Q al9 sh9 S9 1884 [(0, .ref b), (1, .ref x0), (2, .ref m0), (3, .ref o0), (4, .ref d0), (5, .int (nI (4 * t)))] []) : J p l e R s m args below meth c 9 Z cells slots Q al sh S 1020 [(0, .ref b), (1, .ref x0), (2, .ref m0), (3, .ref o0), (4, .ref d0), (5, .int (nI (4 * t)))] [] := by
  obtain ⟨rfl, rfl, rfl, rfl, ⟨fo, hO⟩, hD, hXM, nm, ns, mu, hY, hFr, hN⟩ := hW
  obtain ⟨hp1, hp2, hp3⟩ := hp nm ns mu hN
  refine j_aload_n (j := 1) cx dL_law_1020 rfl rfl (pc' := 1021) rfl ?_
  refine j_aload_n (j := 0) cx dL_law_1021 rfl rfl (pc' := 1022) rfl ?_
  refine j_iload (j := 5) cx dL_law_1022 rfl (pc' := 1024) rfl ?_
  refine j_iconst (v := 1) cx dL_law_1024 (by decide) (pc' := 1025) rfl ?_
  refine j_iadd cx dL_law_1025 (pc' := 1026) rfl ?_
  refine j_sld (n := 4 * t + 1) cx hX hb0 (nI_add (4 * t) 1) (by omega) dL_law_1026 (pc' := 1027) rfl ?_
  refine j_aload_n (j := 0) cx dL_law_1027 rfl rfl (pc' := 1028) rfl ?_
  refine j_iload (j := 5) cx dL_law_1028 rfl (pc' := 1030) rfl ?_
  refine j_iconst (v := 2) cx dL_law_1030 (by decide) (pc' := 1031) rfl ?_
  refine j_iadd cx dL_law_1031 (pc' := 1032) rfl ?_
  refine j_sld (n := 4 * t + 2) cx hX hb0 (nI_add (4 * t) 2) (by omega) dL_law_1032 (pc' := 1033) rfl ?_
  refine j_aload_n (j := 3) cx dL_law_1033 rfl rfl (pc' := 1034) rfl ?_
  refine j_cSW (cells1 := cells + 7) (slots1 := slots + 100) (As := [.ref (al 0 0), .int (xs (4 * t + 1)), .int (xs (4 * t + 2)), .ref (al 70 0)]) (rest := []) cx (c_L_logIn hl0 hY hN.2.1.1 hN.2.1.2.1 hFr hN.2.1.2.2.2.1 hO) gL_law_L_logIn rfl rfl rfl 4 rfl (by decide +kernel) ⟨(by show 11 + 1 ≤ _; omega), (by show 8 + (5 + 11) + 202 ≤ _; omega)⟩ rfl (Nat.le_of_ble_eq_true rfl) dL_law_1034 ⟨by omega, by omega⟩ (pc' := 1037) rfl rfl rfl (fun v9 al9 sh9 S9 h9 => ?_)
  obtain ⟨e1, h9⟩ := h9
  subst v9
  by_cases hk0 : kc_logIn S nm ns mu (xs (4 * t + 1)) (xs (4 * t + 2)) = 0
  · rw [if_pos hk0] at h9
    obtain ⟨sh0, e3, hO0, hq9⟩ := h9
    subst sh9
    obtain ⟨m9, g1, g2, -, -, hY9, hFr9, hk4, hx0, f1, f2, f3, f4, f5⟩ := hq9
    have g40 := (hk4 40 0 (by decide)).1
    have g70 := (hk4 70 0 (by decide)).1
    rw [← g40, ← g70]
    obtain ⟨q1, q2, q3, q4, q5⟩ := hp3 hk0 m9 S9 g2 g1 f1 f2 f3 f4 f5
    refine J.stk (st2 := [.int 0]) (congrArg (fun z => [Value.int z]) hk0) ?_
    have hXM1 : YM Z (shp sh0 70 0 (yLo Z (vp_updL fo 0 (nI ns).toInt64))) := (hXM.to (fun a h1 h2 => (hk4 a 0 h1).2)).out (by decide)
    refine j_istore (lv' := [(6, .int 0), (0, .ref b), (1, .ref (al 0 0)), (2, .ref (al9 40 0)), (3, .ref (al9 70 0)), (4, .ref (al 71 0)), (5, .int (nI (4 * t)))]) cx dL_law_1037 (by decide) rfl (pc' := 1039) rfl ?_
    refine j_aload_n (j := 3) cx dL_law_1039 rfl rfl (pc' := 1040) rfl ?_
    refine j_aload_n (j := 1) cx dL_law_1040 rfl rfl (pc' := 1041) rfl ?_
    refine j_iload (j := 6) cx dL_law_1041 rfl (pc' := 1043) rfl ?_
    refine j_iconst (v := 1) cx dL_law_1043 (by decide) (pc' := 1044) rfl ?_
    refine j_iadd cx dL_law_1044 (pc' := 1045) rfl ?_
    refine j_sld (n := 4 * t + 1) cx hX hb0 (nI_add (4 * t) 1) (by omega) dL_law_1045 (pc' := 1046) rfl ?_
    refine j_aload_n (j := 1) cx dL_law_1046 rfl rfl (pc' := 1047) rfl ?_
    refine j_iload (j := 6) cx dL_law_1047 rfl (pc' := 1049) rfl ?_
    refine j_iconst (v := 2) cx dL_law_1049 (by decide) (pc' := 1050) rfl ?_
    refine j_iadd cx dL_law_1050 (pc' := 1051) rfl ?_
    refine j_sld (n := 4 * t + 2) cx hX hb0 (nI_add (4 * t) 2) (by omega) dL_law_1051 (pc' := 1052) rfl ?_
    refine j_cVP (cells1 := cells + 7 + 0) (slots1 := slots + 100 + 0) (As := [.int (xs (4 * t + 1)), .int (xs (4 * t + 2))]) (rest := []) cx (c_X3_logIn hXM1 q1) gL_law_X3_logIn rfl rfl rfl 2 rfl (by decide +kernel) ⟨(by show 3 + 1 ≤ _; omega), (by show 8 + (5 + 11) + 68 ≤ _; omega)⟩ hXM1.1 rfl rfl rfl rfl (Nat.le_of_ble_eq_true rfl) dL_law_1052 ⟨by omega, by omega⟩ (pc' := 1055) rfl rfl rfl (fun v9 al8 sh8 S8 h9 => ?_)
    obtain ⟨e1, e2, h9⟩ := h9
    subst al8 sh8
    rw [if_pos q2] at h9
    obtain ⟨e5, e6⟩ := h9
    subst v9 S8
    refine J.stk (st2 := [.int (nI ns)]) (congrArg (fun z => [Value.int z]) q3) ?_
    refine j_istore (lv' := [(7, .int (nI ns)), (6, .int 0), (0, .ref b), (1, .ref (al 0 0)), (2, .ref (al9 40 0)), (3, .ref (al9 70 0)), (4, .ref (al 71 0)), (5, .int (nI (4 * t)))]) cx dL_law_1055 (by decide) rfl (pc' := 1057) rfl ?_
    refine j_aload_n (j := 4) cx dL_law_1057 rfl rfl (pc' := 1058) rfl ?_
    refine j_cVP (cells1 := cells + 7 + 0 + 0) (slots1 := slots + 100 + 0 + 0) (As := []) (rest := []) cx (c_X3_thrown hXM1) gL_law_X3_thrown rfl rfl rfl 0 rfl (by decide +kernel) ⟨(by show 0 + 1 ≤ _; omega), (by show 8 + (1 + 11) + 0 ≤ _; omega)⟩ hXM1.1 rfl rfl rfl rfl (Nat.le_of_ble_eq_true rfl) dL_law_1058 ⟨by omega, by omega⟩ (pc' := 1061) rfl rfl rfl (fun v9 al8 sh8 S8 h9 => ?_)
    obtain ⟨e1, e2, e3, e4⟩ := h9
    subst v9 al8 sh8 S8
    refine J.stk (st2 := [.int 0]) (congrArg (fun z => [Value.int z]) q4) ?_
    refine j_iload (j := 1) cx dL_law_1061 rfl (pc' := 1063) rfl ?_
    refine j_icmp_eq (tgt := 1068) cx dL_law_1063 (by decide) (pc' := 1066) rfl (fun _ => ?_) (fun h => absurd rfl h)
    refine j_iload (j := 1) cx dL_law_1068 rfl (pc' := 1070) rfl ?_
    refine j_if_ne (tgt := 1085) cx dL_law_1070 (by decide) (pc' := 1073) rfl (fun h => absurd rfl h) (fun _ => ?_)
    refine j_aload_n (j := 5) cx dL_law_1073 rfl rfl (pc' := 1074) rfl ?_
    refine j_iconst (v := 0) cx dL_law_1074 (by decide) (pc' := 1075) rfl ?_
    refine j_laldX cx (shp_self _ _ _ _) rfl rfl dL_law_1075 (pc' := 1076) rfl ?_
    refine j_iload (j := 0) cx dL_law_1076 rfl (pc' := 1078) rfl ?_
    refine j_i2l cx dL_law_1078 rfl (pc' := 1079) rfl ?_
    refine j_lcmp cx dL_law_1079 (pc' := 1080) rfl ?_
    refine j_if_eq (tgt := 1085) cx dL_law_1080 (by decide) (pc' := 1083) rfl (fun _ => ?_) (fun h => absurd (lcmp_self _) h)
    refine j_goto (tgt := 1884) cx dL_law_1085 (by decide) ?_
    rw [g40, g70]
    refine J.sub [2, 3, 4, 5, 6, 7] rfl (J.widen (k := cells + 20) (n := slots + 300) (by omega) (by omega) (hk _ _ _ ?_))
    exact ⟨hx0, g40, g70, (hk4 71 0 (by decide)).1, ⟨_, shp_self _ _ _ _⟩, hD.imp (fun f hf => (shp_ne _ _ (by omega)).trans ((hk4 71 0 (by decide)).2.trans hf)), hXM1, nm, (ns + 1), _, hY9.out (by decide), hFr9.out (by decide), q5⟩
  · rw [if_neg hk0] at h9
    obtain ⟨e2, e3, e4⟩ := h9
    subst al9 sh9 S9
    have hXM1 := hXM
    refine J.stk (st2 := [.int (kc_logIn S nm ns mu (xs (4 * t + 1)) (xs (4 * t + 2)))]) rfl ?_
    refine j_istore (lv' := [(6, .int (kc_logIn S nm ns mu (xs (4 * t + 1)) (xs (4 * t + 2)))), (0, .ref b), (1, .ref (al 0 0)), (2, .ref (al 40 0)), (3, .ref (al 70 0)), (4, .ref (al 71 0)), (5, .int (nI (4 * t)))]) cx dL_law_1037 (by decide) rfl (pc' := 1039) rfl ?_
    refine j_aload_n (j := 3) cx dL_law_1039 rfl rfl (pc' := 1040) rfl ?_
    refine j_aload_n (j := 1) cx dL_law_1040 rfl rfl (pc' := 1041) rfl ?_
    refine j_iload (j := 6) cx dL_law_1041 rfl (pc' := 1043) rfl ?_
    refine j_iconst (v := 1) cx dL_law_1043 (by decide) (pc' := 1044) rfl ?_
    refine j_iadd cx dL_law_1044 (pc' := 1045) rfl ?_
    refine j_sld (n := 4 * t + 1) cx hX hb0 (nI_add (4 * t) 1) (by omega) dL_law_1045 (pc' := 1046) rfl ?_
    refine j_aload_n (j := 1) cx dL_law_1046 rfl rfl (pc' := 1047) rfl ?_
    refine j_iload (j := 6) cx dL_law_1047 rfl (pc' := 1049) rfl ?_
    refine j_iconst (v := 2) cx dL_law_1049 (by decide) (pc' := 1050) rfl ?_
    refine j_iadd cx dL_law_1050 (pc' := 1051) rfl ?_
    refine j_sld (n := 4 * t + 2) cx hX hb0 (nI_add (4 * t) 2) (by omega) dL_law_1051 (pc' := 1052) rfl ?_
    refine j_cVP (cells1 := cells + 7 + 0) (slots1 := slots + 100 + 0) (As := [.int (xs (4 * t + 1)), .int (xs (4 * t + 2))]) (rest := []) cx (c_X3_logIn hXM1 hN.1) gL_law_X3_logIn rfl rfl rfl 2 rfl (by decide +kernel) ⟨(by show 3 + 1 ≤ _; omega), (by show 8 + (5 + 11) + 68 ≤ _; omega)⟩ hXM1.1 rfl rfl rfl rfl (Nat.le_of_ble_eq_true rfl) dL_law_1052 ⟨by omega, by omega⟩ (pc' := 1055) rfl rfl rfl (fun v9 al9 sh9 S9 h9 => ?_)
    obtain ⟨e1, e2, h9⟩ := h9
    subst al9 sh9
    have hm0 : ¬ km_logIn S nm ns mu (xs (4 * t + 1)) (xs (4 * t + 2)) = 0 := by rw [← hp1]; exact hk0
    rw [if_neg hm0] at h9
    obtain ⟨e5, e6⟩ := h9
    subst v9 S9
    refine J.stk (st2 := [.int 0]) rfl ?_
    refine j_istore (lv' := [(7, .int 0), (6, .int (kc_logIn S nm ns mu (xs (4 * t + 1)) (xs (4 * t + 2)))), (0, .ref b), (1, .ref (al 0 0)), (2, .ref (al 40 0)), (3, .ref (al 70 0)), (4, .ref (al 71 0)), (5, .int (nI (4 * t)))]) cx dL_law_1055 (by decide) rfl (pc' := 1057) rfl ?_
    refine j_aload_n (j := 4) cx dL_law_1057 rfl rfl (pc' := 1058) rfl ?_
    refine j_cVP (cells1 := cells + 7 + 0 + 0) (slots1 := slots + 100 + 0 + 0) (As := []) (rest := []) cx (c_X3_thrown hXM1) gL_law_X3_thrown rfl rfl rfl 0 rfl (by decide +kernel) ⟨(by show 0 + 1 ≤ _; omega), (by show 8 + (1 + 11) + 0 ≤ _; omega)⟩ hXM1.1 rfl rfl rfl rfl (Nat.le_of_ble_eq_true rfl) dL_law_1058 ⟨by omega, by omega⟩ (pc' := 1061) rfl rfl rfl (fun v9 al9 sh9 S9 h9 => ?_)
    obtain ⟨e1, e2, e3, e4⟩ := h9
    subst v9 al9 sh9 S9
    refine J.stk (st2 := [.int (kc_logIn S nm ns mu (xs (4 * t + 1)) (xs (4 * t + 2)))]) (congrArg (fun z => [Value.int z]) ((sup_self _ _ _ _ _).trans hp1.symm)) ?_
    refine j_iload (j := 1) cx dL_law_1061 rfl (pc' := 1063) rfl ?_
    refine j_icmp_eq (tgt := 1068) cx dL_law_1063 (by decide) (pc' := 1066) rfl (fun _ => ?_) (fun h => absurd rfl h)
    refine j_iload (j := 1) cx dL_law_1068 rfl (pc' := 1070) rfl ?_
    refine j_if_ne (tgt := 1085) cx dL_law_1070 (by decide) (pc' := 1073) rfl (fun _ => ?_) (fun h => absurd h hk0)
    refine j_goto (tgt := 1884) cx dL_law_1085 (by decide) ?_
    refine J.sub [2, 3, 4, 5, 6, 7] rfl (J.widen (k := cells + 20) (n := slots + 300) (by omega) (by omega) (hk _ _ _ ?_))
    exact ⟨rfl, rfl, rfl, rfl, ⟨fo, hO⟩, hD, hXM, nm, ns, mu, hY, hFr, Eq.mp (congrArg (fun z => IN (sup S 40 0 0 z) nm ns mu (K + 5000)) hp1) (hp2 hk0)⟩
