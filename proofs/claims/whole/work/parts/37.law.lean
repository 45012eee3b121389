set_option maxHeartbeats 4000000 in
set_option maxRecDepth 100000 in
theorem l_setLimits {p : Program} {l : Launch} {e : Env} {R : Room} {s : State} {m : MethodId} {args : Array Value} {below : List Frame} {meth : Method} {c : Code} {cells slots : Nat} {Q : State → Prop} {Z : yL} {al : yAl} {sh : ySh} {S : yS} {b L t K x0 m0 o0 d0 : Nat} {xs : Nat → Int32} (hl0 : l.stackTraces = false) (cx : Cx p s m args c code 9 RL wsL_law Z) (hX : va_X b L xs s s.heap) (hb0 : b < s.heap.size ∧ ¬ Z.2.2.1 ≤ b) (hR : 20 ≤ R.frames ∧ 10000 ≤ R.locals ∧ cells + 20 ≤ R.cells ∧ slots + 300 ≤ R.slots) (ht : 4 * t + 4 ≤ L ∧ L ≤ 2048) (hW : WI Z x0 m0 o0 d0 K al sh S) (hp : ∀ nm ns mu, IN S nm ns mu K → P_setLimits S nm ns mu K (xs (4 * t + 1)) (xs (4 * t + 2)) (xs (4 * t + 3))) (hk : ∀ al9 sh9 S9, WI Z x0 m0 o0 d0 (K + 5000) al9 sh9 S9 → J p l e R s m args below meth c 9 Z (cells + 20) (slots + 300) Q al9 sh9 S9 1884 [(0, .ref b), (1, .ref x0), (2, .ref m0), (3, .ref o0), (4, .ref d0), (5, .int (nI (4 * t)))] []) : J p l e R s m args below meth c 9 Z cells slots Q al sh S 252 [(0, .ref b), (1, .ref x0), (2, .ref m0), (3, .ref o0), (4, .ref d0), (5, .int (nI (4 * t)))] [] := by
  obtain ⟨rfl, rfl, rfl, rfl, ⟨fo, hO⟩, hD, hXM, nm, ns, mu, hY, hFr, hN⟩ := hW
  obtain ⟨hp1, hp2, hp3⟩ := hp nm ns mu hN
  refine j_aload_n (j := 1) cx dL_law_252 rfl rfl (pc' := 253) rfl ?_
  refine j_aload_n (j := 0) cx dL_law_253 rfl rfl (pc' := 254) rfl ?_
  refine j_iload (j := 5) cx dL_law_254 rfl (pc' := 256) rfl ?_
  refine j_iconst (v := 1) cx dL_law_256 (by decide) (pc' := 257) rfl ?_
  refine j_iadd cx dL_law_257 (pc' := 258) rfl ?_
  refine j_sld (n := 4 * t + 1) cx hX hb0 (nI_add (4 * t) 1) (by omega) dL_law_258 (pc' := 259) rfl ?_
  refine j_aload_n (j := 0) cx dL_law_259 rfl rfl (pc' := 260) rfl ?_
  refine j_iload (j := 5) cx dL_law_260 rfl (pc' := 262) rfl ?_
  refine j_iconst (v := 2) cx dL_law_262 (by decide) (pc' := 263) rfl ?_
  refine j_iadd cx dL_law_263 (pc' := 264) rfl ?_
  refine j_sld (n := 4 * t + 2) cx hX hb0 (nI_add (4 * t) 2) (by omega) dL_law_264 (pc' := 265) rfl ?_
  refine j_aload_n (j := 0) cx dL_law_265 rfl rfl (pc' := 266) rfl ?_
  refine j_iload (j := 5) cx dL_law_266 rfl (pc' := 268) rfl ?_
  refine j_iconst (v := 3) cx dL_law_268 (by decide) (pc' := 269) rfl ?_
  refine j_iadd cx dL_law_269 (pc' := 270) rfl ?_
  refine j_sld (n := 4 * t + 3) cx hX hb0 (nI_add (4 * t) 3) (by omega) dL_law_270 (pc' := 271) rfl ?_
  refine j_aload_n (j := 3) cx dL_law_271 rfl rfl (pc' := 272) rfl ?_
  refine j_cSW (cells1 := cells + 2) (slots1 := slots + 12) (As := [.ref (al 0 0), .int (xs (4 * t + 1)), .int (xs (4 * t + 2)), .int (xs (4 * t + 3)), .ref (al 70 0)]) (rest := []) cx (c_L_setLimits hl0 hY hO) gL_law_L_setLimits rfl rfl rfl 5 rfl (by decide +kernel) ⟨(by show 8 + 1 ≤ _; omega), (by show 8 + (6 + 11) + 134 ≤ _; omega)⟩ rfl (Nat.le_of_ble_eq_true rfl) dL_law_272 ⟨by omega, by omega⟩ (pc' := 275) rfl rfl rfl (fun v9 al9 sh9 S9 h9 => ?_)
  obtain ⟨e1, e2, h9⟩ := h9
  subst v9 al9
  by_cases hk0 : kc_setLimits S nm ns mu (xs (4 * t + 1)) (xs (4 * t + 2)) (xs (4 * t + 3)) = 0
  · rw [if_pos hk0] at h9
    obtain ⟨e3, e4⟩ := h9
    subst sh9 S9
    obtain ⟨q1, q2, q3, q4, q5⟩ := hp3 hk0
    refine J.stk (st2 := [.int 0]) (congrArg (fun z => [Value.int z]) hk0) ?_
    have hXM1 : YM Z (shp sh 70 0 (yLo Z (vp_updL fo 0 (rc_setLimits S nm ns mu (xs (4 * t + 1)) (xs (4 * t + 2)) (xs (4 * t + 3))).toInt64))) := hXM.out (by decide)
    refine j_istore (lv' := [(6, .int 0), (0, .ref b), (1, .ref (al 0 0)), (2, .ref (al 40 0)), (3, .ref (al 70 0)), (4, .ref (al 71 0)), (5, .int (nI (4 * t)))]) cx dL_law_275 (by decide) rfl (pc' := 277) rfl ?_
    refine j_aload_n (j := 3) cx dL_law_277 rfl rfl (pc' := 278) rfl ?_
    refine j_aload_n (j := 1) cx dL_law_278 rfl rfl (pc' := 279) rfl ?_
    refine j_iload (j := 6) cx dL_law_279 rfl (pc' := 281) rfl ?_
    refine j_iconst (v := 1) cx dL_law_281 (by decide) (pc' := 282) rfl ?_
    refine j_iadd cx dL_law_282 (pc' := 283) rfl ?_
    refine j_sld (n := 4 * t + 1) cx hX hb0 (nI_add (4 * t) 1) (by omega) dL_law_283 (pc' := 284) rfl ?_
    refine j_aload_n (j := 1) cx dL_law_284 rfl rfl (pc' := 285) rfl ?_
    refine j_iload (j := 6) cx dL_law_285 rfl (pc' := 287) rfl ?_
    refine j_iconst (v := 2) cx dL_law_287 (by decide) (pc' := 288) rfl ?_
    refine j_iadd cx dL_law_288 (pc' := 289) rfl ?_
    refine j_sld (n := 4 * t + 2) cx hX hb0 (nI_add (4 * t) 2) (by omega) dL_law_289 (pc' := 290) rfl ?_
    refine j_aload_n (j := 1) cx dL_law_290 rfl rfl (pc' := 291) rfl ?_
    refine j_iload (j := 6) cx dL_law_291 rfl (pc' := 293) rfl ?_
    refine j_iconst (v := 3) cx dL_law_293 (by decide) (pc' := 294) rfl ?_
    refine j_iadd cx dL_law_294 (pc' := 295) rfl ?_
    refine j_sld (n := 4 * t + 3) cx hX hb0 (nI_add (4 * t) 3) (by omega) dL_law_295 (pc' := 296) rfl ?_
    refine j_cVP (cells1 := cells + 2 + 0) (slots1 := slots + 12 + 0) (As := [.int (xs (4 * t + 1)), .int (xs (4 * t + 2)), .int (xs (4 * t + 3))]) (rest := []) cx (c_X3_setLimits hXM1 q1) gL_law_X3_setLimits rfl rfl rfl 3 rfl (by decide +kernel) ⟨(by show 2 + 1 ≤ _; omega), (by show 8 + (5 + 11) + 42 ≤ _; omega)⟩ hXM1.1 rfl rfl rfl rfl (Nat.le_of_ble_eq_true rfl) dL_law_296 ⟨by omega, by omega⟩ (pc' := 299) rfl rfl rfl (fun v9 al9 sh9 S9 h9 => ?_)
    obtain ⟨e1, e2, h9⟩ := h9
    subst al9 sh9
    rw [if_pos q2] at h9
    obtain ⟨e5, e6⟩ := h9
    subst v9 S9
    refine J.stk (st2 := [.int (rc_setLimits S nm ns mu (xs (4 * t + 1)) (xs (4 * t + 2)) (xs (4 * t + 3)))]) (congrArg (fun z => [Value.int z]) q3) ?_
    refine j_istore (lv' := [(7, .int (rc_setLimits S nm ns mu (xs (4 * t + 1)) (xs (4 * t + 2)) (xs (4 * t + 3)))), (6, .int 0), (0, .ref b), (1, .ref (al 0 0)), (2, .ref (al 40 0)), (3, .ref (al 70 0)), (4, .ref (al 71 0)), (5, .int (nI (4 * t)))]) cx dL_law_299 (by decide) rfl (pc' := 301) rfl ?_
    refine j_aload_n (j := 4) cx dL_law_301 rfl rfl (pc' := 302) rfl ?_
    refine j_cVP (cells1 := cells + 2 + 0 + 0) (slots1 := slots + 12 + 0 + 0) (As := []) (rest := []) cx (c_X3_thrown hXM1) gL_law_X3_thrown rfl rfl rfl 0 rfl (by decide +kernel) ⟨(by show 0 + 1 ≤ _; omega), (by show 8 + (1 + 11) + 0 ≤ _; omega)⟩ hXM1.1 rfl rfl rfl rfl (Nat.le_of_ble_eq_true rfl) dL_law_302 ⟨by omega, by omega⟩ (pc' := 305) rfl rfl rfl (fun v9 al9 sh9 S9 h9 => ?_)
    obtain ⟨e1, e2, e3, e4⟩ := h9
    subst v9 al9 sh9 S9
    refine J.stk (st2 := [.int 0]) (congrArg (fun z => [Value.int z]) q4) ?_
    refine j_iload (j := 1) cx dL_law_305 rfl (pc' := 307) rfl ?_
    refine j_icmp_eq (tgt := 312) cx dL_law_307 (by decide) (pc' := 310) rfl (fun _ => ?_) (fun h => absurd rfl h)
    refine j_iload (j := 1) cx dL_law_312 rfl (pc' := 314) rfl ?_
    refine j_if_ne (tgt := 329) cx dL_law_314 (by decide) (pc' := 317) rfl (fun h => absurd rfl h) (fun _ => ?_)
    refine j_aload_n (j := 5) cx dL_law_317 rfl rfl (pc' := 318) rfl ?_
    refine j_iconst (v := 0) cx dL_law_318 (by decide) (pc' := 319) rfl ?_
    refine j_laldX cx (shp_self _ _ _ _) rfl rfl dL_law_319 (pc' := 320) rfl ?_
    refine j_iload (j := 0) cx dL_law_320 rfl (pc' := 322) rfl ?_
    refine j_i2l cx dL_law_322 rfl (pc' := 323) rfl ?_
    refine j_lcmp cx dL_law_323 (pc' := 324) rfl ?_
    refine j_if_eq (tgt := 329) cx dL_law_324 (by decide) (pc' := 327) rfl (fun _ => ?_) (fun h => absurd (lcmp_self _) h)
    refine j_goto (tgt := 1884) cx dL_law_329 (by decide) ?_
    refine J.sub [2, 3, 4, 5, 6, 7] rfl (J.widen (k := cells + 20) (n := slots + 300) (by omega) (by omega) (hk _ _ _ ?_))
    exact ⟨rfl, rfl, rfl, rfl, ⟨_, shp_self _ _ _ _⟩, hD.imp (fun f hf => (shp_ne _ _ (by omega)).trans hf), hXM1, nm, ns, mu, hY.out (by decide), hFr.out (by decide), q5⟩
  · rw [if_neg hk0] at h9
    obtain ⟨e3, e4⟩ := h9
    subst sh9 S9
    have hXM1 := hXM
    refine J.stk (st2 := [.int (kc_setLimits S nm ns mu (xs (4 * t + 1)) (xs (4 * t + 2)) (xs (4 * t + 3)))]) rfl ?_
    refine j_istore (lv' := [(6, .int (kc_setLimits S nm ns mu (xs (4 * t + 1)) (xs (4 * t + 2)) (xs (4 * t + 3)))), (0, .ref b), (1, .ref (al 0 0)), (2, .ref (al 40 0)), (3, .ref (al 70 0)), (4, .ref (al 71 0)), (5, .int (nI (4 * t)))]) cx dL_law_275 (by decide) rfl (pc' := 277) rfl ?_
    refine j_aload_n (j := 3) cx dL_law_277 rfl rfl (pc' := 278) rfl ?_
    refine j_aload_n (j := 1) cx dL_law_278 rfl rfl (pc' := 279) rfl ?_
    refine j_iload (j := 6) cx dL_law_279 rfl (pc' := 281) rfl ?_
    refine j_iconst (v := 1) cx dL_law_281 (by decide) (pc' := 282) rfl ?_
    refine j_iadd cx dL_law_282 (pc' := 283) rfl ?_
    refine j_sld (n := 4 * t + 1) cx hX hb0 (nI_add (4 * t) 1) (by omega) dL_law_283 (pc' := 284) rfl ?_
    refine j_aload_n (j := 1) cx dL_law_284 rfl rfl (pc' := 285) rfl ?_
    refine j_iload (j := 6) cx dL_law_285 rfl (pc' := 287) rfl ?_
    refine j_iconst (v := 2) cx dL_law_287 (by decide) (pc' := 288) rfl ?_
    refine j_iadd cx dL_law_288 (pc' := 289) rfl ?_
    refine j_sld (n := 4 * t + 2) cx hX hb0 (nI_add (4 * t) 2) (by omega) dL_law_289 (pc' := 290) rfl ?_
    refine j_aload_n (j := 1) cx dL_law_290 rfl rfl (pc' := 291) rfl ?_
    refine j_iload (j := 6) cx dL_law_291 rfl (pc' := 293) rfl ?_
    refine j_iconst (v := 3) cx dL_law_293 (by decide) (pc' := 294) rfl ?_
    refine j_iadd cx dL_law_294 (pc' := 295) rfl ?_
    refine j_sld (n := 4 * t + 3) cx hX hb0 (nI_add (4 * t) 3) (by omega) dL_law_295 (pc' := 296) rfl ?_
    refine j_cVP (cells1 := cells + 2 + 0) (slots1 := slots + 12 + 0) (As := [.int (xs (4 * t + 1)), .int (xs (4 * t + 2)), .int (xs (4 * t + 3))]) (rest := []) cx (c_X3_setLimits hXM1 hN.1) gL_law_X3_setLimits rfl rfl rfl 3 rfl (by decide +kernel) ⟨(by show 2 + 1 ≤ _; omega), (by show 8 + (5 + 11) + 42 ≤ _; omega)⟩ hXM1.1 rfl rfl rfl rfl (Nat.le_of_ble_eq_true rfl) dL_law_296 ⟨by omega, by omega⟩ (pc' := 299) rfl rfl rfl (fun v9 al9 sh9 S9 h9 => ?_)
    obtain ⟨e1, e2, h9⟩ := h9
    subst al9 sh9
    have hm0 : ¬ km_setLimits S nm ns mu (xs (4 * t + 1)) (xs (4 * t + 2)) (xs (4 * t + 3)) = 0 := by rw [← hp1]; exact hk0
    rw [if_neg hm0] at h9
    obtain ⟨e5, e6⟩ := h9
    subst v9 S9
    refine J.stk (st2 := [.int 0]) rfl ?_
    refine j_istore (lv' := [(7, .int 0), (6, .int (kc_setLimits S nm ns mu (xs (4 * t + 1)) (xs (4 * t + 2)) (xs (4 * t + 3)))), (0, .ref b), (1, .ref (al 0 0)), (2, .ref (al 40 0)), (3, .ref (al 70 0)), (4, .ref (al 71 0)), (5, .int (nI (4 * t)))]) cx dL_law_299 (by decide) rfl (pc' := 301) rfl ?_
    refine j_aload_n (j := 4) cx dL_law_301 rfl rfl (pc' := 302) rfl ?_
    refine j_cVP (cells1 := cells + 2 + 0 + 0) (slots1 := slots + 12 + 0 + 0) (As := []) (rest := []) cx (c_X3_thrown hXM1) gL_law_X3_thrown rfl rfl rfl 0 rfl (by decide +kernel) ⟨(by show 0 + 1 ≤ _; omega), (by show 8 + (1 + 11) + 0 ≤ _; omega)⟩ hXM1.1 rfl rfl rfl rfl (Nat.le_of_ble_eq_true rfl) dL_law_302 ⟨by omega, by omega⟩ (pc' := 305) rfl rfl rfl (fun v9 al9 sh9 S9 h9 => ?_)
    obtain ⟨e1, e2, e3, e4⟩ := h9
    subst v9 al9 sh9 S9
    refine J.stk (st2 := [.int (kc_setLimits S nm ns mu (xs (4 * t + 1)) (xs (4 * t + 2)) (xs (4 * t + 3)))]) (congrArg (fun z => [Value.int z]) ((sup_self _ _ _ _ _).trans hp1.symm)) ?_
    refine j_iload (j := 1) cx dL_law_305 rfl (pc' := 307) rfl ?_
    refine j_icmp_eq (tgt := 312) cx dL_law_307 (by decide) (pc' := 310) rfl (fun _ => ?_) (fun h => absurd rfl h)
    refine j_iload (j := 1) cx dL_law_312 rfl (pc' := 314) rfl ?_
    refine j_if_ne (tgt := 329) cx dL_law_314 (by decide) (pc' := 317) rfl (fun _ => ?_) (fun h => absurd h hk0)
    refine j_goto (tgt := 1884) cx dL_law_329 (by decide) ?_
    refine J.sub [2, 3, 4, 5, 6, 7] rfl (J.widen (k := cells + 20) (n := slots + 300) (by omega) (by omega) (hk _ _ _ ?_))
    exact ⟨rfl, rfl, rfl, rfl, ⟨fo, hO⟩, hD, hXM, nm, ns, mu, hY, hFr, Eq.mp (congrArg (fun z => IN (sup S 40 0 0 z) nm ns mu (K + 5000)) hp1) (hp2 hk0)⟩
set_option maxHeartbeats 4000000 in
set_option maxRecDepth 100000 in
theorem l_drain {p : Program} {l : Launch} {e : Env} {R : Room} {s : State} {m : MethodId} {args : Array Value} {below : List Frame} {meth : Method} {c : Code} {cells slots : Nat} {Q : State → Prop} {Z : yL} {al : yAl} {sh : ySh} {S : yS} {b L t K x0 m0 o0 d0 : Nat} {xs : Nat → Int32} (hl0 : l.stackTraces = false) (cx : Cx p s m args c code 9 RL wsL_law Z) (hX : va_X b L xs s s.heap) (hb0 : b < s.heap.size ∧ ¬ Z.2.2.1 ≤ b) (hR : 20 ≤ R.frames ∧ 10000 ≤ R.locals ∧ cells + 20 ≤ R.cells ∧ slots + 300 ≤ R.slots) (ht : 4 * t + 4 ≤ L ∧ L ≤ 2048) (hW : WI Z x0 m0 o0 d0 K al sh S) (hp : ∀ nm ns mu, IN S nm ns mu K → P_drain S nm ns mu K (xs (4 * t + 1))) (hk : ∀ al9 sh9 S9, WI Z x0 m0 o0 d0 (K + 5000) al9 sh9 S9 → J p l e R s m args below meth c 9 Z (cells + 20) (slots + 300) Q al9 sh9 S9 1884 [(0, .ref b), (1, .ref x0), (2, .ref m0), (3, .ref o0), (4, .ref d0), (5, .int (nI (4 * t)))] []) : J p l e R s m args below meth c 9 Z cells slots Q al sh S 332 [(0, .ref b), (1, .ref x0), (2, .ref m0), (3, .ref o0), (4, .ref d0), (5, .int (nI (4 * t)))] [] := by
  obtain ⟨rfl, rfl, rfl, rfl, ⟨fo, hO⟩, hD, hXM, nm, ns, mu, hY, hFr, hN⟩ := hW
  obtain ⟨hp1, hp2, hp3⟩ := hp nm ns mu hN
  refine j_aload_n (j := 1) cx dL_law_332 rfl rfl (pc' := 333) rfl ?_
  refine j_aload_n (j := 0) cx dL_law_333 rfl rfl (pc' := 334) rfl ?_
  refine j_iload (j := 5) cx dL_law_334 rfl (pc' := 336) rfl ?_
  refine j_iconst (v := 1) cx dL_law_336 (by decide) (pc' := 337) rfl ?_
  refine j_iadd cx dL_law_337 (pc' := 338) rfl ?_
  refine j_sld (n := 4 * t + 1) cx hX hb0 (nI_add (4 * t) 1) (by omega) dL_law_338 (pc' := 339) rfl ?_
  refine j_aload_n (j := 3) cx dL_law_339 rfl rfl (pc' := 340) rfl ?_
  refine j_cSW (cells1 := cells + 2) (slots1 := slots + 12) (As := [.ref (al 0 0), .int (xs (4 * t + 1)), .ref (al 70 0)]) (rest := []) cx (c_L_drain hl0 hY hN.2.1.1 hO) gL_law_L_drain rfl rfl rfl 3 rfl (by decide +kernel) ⟨(by show 11 + 1 ≤ _; omega), (by show 8 + (4 + 11) + 197 ≤ _; omega)⟩ rfl (Nat.le_of_ble_eq_true rfl) dL_law_340 ⟨by omega, by omega⟩ (pc' := 343) rfl rfl rfl (fun v9 al9 sh9 S9 h9 => ?_)
  obtain ⟨e1, e2, h9⟩ := h9
  subst v9 al9
  by_cases hk0 : kc_drain S nm ns mu (xs (4 * t + 1)) = 0
  · rw [if_pos hk0] at h9
    obtain ⟨e3, e4⟩ := h9
    subst sh9 S9
    obtain ⟨q1, q2, q3, q4, q5⟩ := hp3 hk0
    refine J.stk (st2 := [.int 0]) (congrArg (fun z => [Value.int z]) hk0) ?_
    have hXM1 : YM Z (shp sh 70 0 (yLo Z (vp_updL fo 0 (rc_drain S nm ns mu (xs (4 * t + 1))).toInt64))) := hXM.out (by decide)
    refine j_istore (lv' := [(6, .int 0), (0, .ref b), (1, .ref (al 0 0)), (2, .ref (al 40 0)), (3, .ref (al 70 0)), (4, .ref (al 71 0)), (5, .int (nI (4 * t)))]) cx dL_law_343 (by decide) rfl (pc' := 345) rfl ?_
    refine j_aload_n (j := 3) cx dL_law_345 rfl rfl (pc' := 346) rfl ?_
    refine j_aload_n (j := 1) cx dL_law_346 rfl rfl (pc' := 347) rfl ?_
    refine j_iload (j := 6) cx dL_law_347 rfl (pc' := 349) rfl ?_
    refine j_iconst (v := 1) cx dL_law_349 (by decide) (pc' := 350) rfl ?_
    refine j_iadd cx dL_law_350 (pc' := 351) rfl ?_
    refine j_sld (n := 4 * t + 1) cx hX hb0 (nI_add (4 * t) 1) (by omega) dL_law_351 (pc' := 352) rfl ?_
    refine j_cVP (cells1 := cells + 2 + 0) (slots1 := slots + 12 + 0) (As := [.int (xs (4 * t + 1))]) (rest := []) cx (c_X3_drain hXM1 q1) gL_law_X3_drain rfl rfl rfl 1 rfl (by decide +kernel) ⟨(by show 3 + 1 ≤ _; omega), (by show 8 + (2 + 11) + 65 ≤ _; omega)⟩ hXM1.1 rfl rfl rfl rfl (Nat.le_of_ble_eq_true rfl) dL_law_352 ⟨by omega, by omega⟩ (pc' := 355) rfl rfl rfl (fun v9 al9 sh9 S9 h9 => ?_)
    obtain ⟨e1, e2, h9⟩ := h9
    subst al9 sh9
    rw [if_pos q2] at h9
    obtain ⟨e5, e6⟩ := h9
    subst v9 S9
    refine J.stk (st2 := [.int (rc_drain S nm ns mu (xs (4 * t + 1)))]) (congrArg (fun z => [Value.int z]) q3) ?_
    refine j_istore (lv' := [(7, .int (rc_drain S nm ns mu (xs (4 * t + 1)))), (6, .int 0), (0, .ref b), (1, .ref (al 0 0)), (2, .ref (al 40 0)), (3, .ref (al 70 0)), (4, .ref (al 71 0)), (5, .int (nI (4 * t)))]) cx dL_law_355 (by decide) rfl (pc' := 357) rfl ?_
    refine j_aload_n (j := 4) cx dL_law_357 rfl rfl (pc' := 358) rfl ?_
    refine j_cVP (cells1 := cells + 2 + 0 + 0) (slots1 := slots + 12 + 0 + 0) (As := []) (rest := []) cx (c_X3_thrown hXM1) gL_law_X3_thrown rfl rfl rfl 0 rfl (by decide +kernel) ⟨(by show 0 + 1 ≤ _; omega), (by show 8 + (1 + 11) + 0 ≤ _; omega)⟩ hXM1.1 rfl rfl rfl rfl (Nat.le_of_ble_eq_true rfl) dL_law_358 ⟨by omega, by omega⟩ (pc' := 361) rfl rfl rfl (fun v9 al9 sh9 S9 h9 => ?_)
    obtain ⟨e1, e2, e3, e4⟩ := h9
    subst v9 al9 sh9 S9
    refine J.stk (st2 := [.int 0]) (congrArg (fun z => [Value.int z]) q4) ?_
    refine j_iload (j := 1) cx dL_law_361 rfl (pc' := 363) rfl ?_
    refine j_icmp_eq (tgt := 368) cx dL_law_363 (by decide) (pc' := 366) rfl (fun _ => ?_) (fun h => absurd rfl h)
    refine j_iload (j := 1) cx dL_law_368 rfl (pc' := 370) rfl ?_
    refine j_if_ne (tgt := 385) cx dL_law_370 (by decide) (pc' := 373) rfl (fun h => absurd rfl h) (fun _ => ?_)
    refine j_aload_n (j := 5) cx dL_law_373 rfl rfl (pc' := 374) rfl ?_
    refine j_iconst (v := 0) cx dL_law_374 (by decide) (pc' := 375) rfl ?_
    refine j_laldX cx (shp_self _ _ _ _) rfl rfl dL_law_375 (pc' := 376) rfl ?_
    refine j_iload (j := 0) cx dL_law_376 rfl (pc' := 378) rfl ?_
    refine j_i2l cx dL_law_378 rfl (pc' := 379) rfl ?_
    refine j_lcmp cx dL_law_379 (pc' := 380) rfl ?_
    refine j_if_eq (tgt := 385) cx dL_law_380 (by decide) (pc' := 383) rfl (fun _ => ?_) (fun h => absurd (lcmp_self _) h)
    refine j_goto (tgt := 1884) cx dL_law_385 (by decide) ?_
    refine J.sub [2, 3, 4, 5, 6, 7] rfl (J.widen (k := cells + 20) (n := slots + 300) (by omega) (by omega) (hk _ _ _ ?_))
    exact ⟨rfl, rfl, rfl, rfl, ⟨_, shp_self _ _ _ _⟩, hD.imp (fun f hf => (shp_ne _ _ (by omega)).trans hf), hXM1, nm, ns, mu, hY.out (by decide), hFr.out (by decide), q5⟩
  · rw [if_neg hk0] at h9
    obtain ⟨e3, e4⟩ := h9
    subst sh9 S9
    have hXM1 := hXM
    refine J.stk (st2 := [.int (kc_drain S nm ns mu (xs (4 * t + 1)))]) rfl ?_
    refine j_istore (lv' := [(6, .int (kc_drain S nm ns mu (xs (4 * t + 1)))), (0, .ref b), (1, .ref (al 0 0)), (2, .ref (al 40 0)), (3, .ref (al 70 0)), (4, .ref (al 71 0)), (5, .int (nI (4 * t)))]) cx dL_law_343 (by decide) rfl (pc' := 345) rfl ?_
    refine j_aload_n (j := 3) cx dL_law_345 rfl rfl (pc' := 346) rfl ?_
    refine j_aload_n (j := 1) cx dL_law_346 rfl rfl (pc' := 347) rfl ?_
    refine j_iload (j := 6) cx dL_law_347 rfl (pc' := 349) rfl ?_
    refine j_iconst (v := 1) cx dL_law_349 (by decide) (pc' := 350) rfl ?_
    refine j_iadd cx dL_law_350 (pc' := 351) rfl ?_
    refine j_sld (n := 4 * t + 1) cx hX hb0 (nI_add (4 * t) 1) (by omega) dL_law_351 (pc' := 352) rfl ?_
    refine j_cVP (cells1 := cells + 2 + 0) (slots1 := slots + 12 + 0) (As := [.int (xs (4 * t + 1))]) (rest := []) cx (c_X3_drain hXM1 hN.1) gL_law_X3_drain rfl rfl rfl 1 rfl (by decide +kernel) ⟨(by show 3 + 1 ≤ _; omega), (by show 8 + (2 + 11) + 65 ≤ _; omega)⟩ hXM1.1 rfl rfl rfl rfl (Nat.le_of_ble_eq_true rfl) dL_law_352 ⟨by omega, by omega⟩ (pc' := 355) rfl rfl rfl (fun v9 al9 sh9 S9 h9 => ?_)
    obtain ⟨e1, e2, h9⟩ := h9
    subst al9 sh9
    have hm0 : ¬ km_drain S nm ns mu (xs (4 * t + 1)) = 0 := by rw [← hp1]; exact hk0
    rw [if_neg hm0] at h9
    obtain ⟨e5, e6⟩ := h9
    subst v9 S9
    refine J.stk (st2 := [.int 0]) rfl ?_
    refine j_istore (lv' := [(7, .int 0), (6, .int (kc_drain S nm ns mu (xs (4 * t + 1)))), (0, .ref b), (1, .ref (al 0 0)), (2, .ref (al 40 0)), (3, .ref (al 70 0)), (4, .ref (al 71 0)), (5, .int (nI (4 * t)))]) cx dL_law_355 (by decide) rfl (pc' := 357) rfl ?_
    refine j_aload_n (j := 4) cx dL_law_357 rfl rfl (pc' := 358) rfl ?_
    refine j_cVP (cells1 := cells + 2 + 0 + 0) (slots1 := slots + 12 + 0 + 0) (As := []) (rest := []) cx (c_X3_thrown hXM1) gL_law_X3_thrown rfl rfl rfl 0 rfl (by decide +kernel) ⟨(by show 0 + 1 ≤ _; omega), (by show 8 + (1 + 11) + 0 ≤ _; omega)⟩ hXM1.1 rfl rfl rfl rfl (Nat.le_of_ble_eq_true rfl) dL_law_358 ⟨by omega, by omega⟩ (pc' := 361) rfl rfl rfl (fun v9 al9 sh9 S9 h9 => ?_)
    obtain ⟨e1, e2, e3, e4⟩ := h9
    subst v9 al9 sh9 S9
    refine J.stk (st2 := [.int (kc_drain S nm ns mu (xs (4 * t + 1)))]) (congrArg (fun z => [Value.int z]) ((sup_self _ _ _ _ _).trans hp1.symm)) ?_
    refine j_iload (j := 1) cx dL_law_361 rfl (pc' := 363) rfl ?_
    refine j_icmp_eq (tgt := 368) cx dL_law_363 (by decide) (pc' := 366) rfl (fun _ => ?_) (fun h => absurd rfl h)
    refine j_iload (j := 1) cx dL_law_368 rfl (pc' := 370) rfl ?_
    refine j_if_ne (tgt := 385) cx dL_law_370 (by decide) (pc' := 373) rfl (fun _ => ?_) (fun h => absurd h hk0)
    refine j_goto (tgt := 1884) cx dL_law_385 (by decide) ?_
    refine J.sub [2, 3, 4, 5, 6, 7] rfl (J.widen (k := cells + 20) (n := slots + 300) (by omega) (by omega) (hk _ _ _ ?_))
    exact ⟨rfl, rfl, rfl, rfl, ⟨fo, hO⟩, hD, hXM, nm, ns, mu, hY, hFr, Eq.mp (congrArg (fun z => IN (sup S 40 0 0 z) nm ns mu (K + 5000)) hp1) (hp2 hk0)⟩
set_option maxHeartbeats 4000000 in
set_option maxRecDepth 100000 in
theorem l_putUp {p : Program} {l : Launch} {e : Env} {R : Room} {s : State} {m : MethodId} {args : Array Value} {below : List Frame} {meth : Method} {c : Code} {cells slots : Nat} {Q : State → Prop} {Z : yL} {al : yAl} {sh : ySh} {S : yS} {b L t K x0 m0 o0 d0 : Nat} {xs : Nat → Int32} (hl0 : l.stackTraces = false) (cx : Cx p s m args c code 9 RL wsL_law Z) (hX : va_X b L xs s s.heap) (hb0 : b < s.heap.size ∧ ¬ Z.2.2.1 ≤ b) (hR : 20 ≤ R.frames ∧ 10000 ≤ R.locals ∧ cells + 20 ≤ R.cells ∧ slots + 300 ≤ R.slots) (ht : 4 * t + 4 ≤ L ∧ L ≤ 2048) (hW : WI Z x0 m0 o0 d0 K al sh S) (hp : ∀ nm ns mu, IN S nm ns mu K → P_putUp S nm ns mu K (xs (4 * t + 1))) (hk : ∀ al9 sh9 S9, WI Z x0 m0 o0 d0 (K + 5000) al9 sh9 S9 → J p l e R s m args below meth c 9 Z (cells + 20) (slots + 300) Q al9 sh9 S9 1884 [(0, .ref b), (1, .ref x0), (2, .ref m0), (3, .ref o0), (4, .ref d0), (5, .int (nI (4 * t)))] []) : J p l e R s m args below meth c 9 Z cells slots Q al sh S 388 [(0, .ref b), (1, .ref x0), (2, .ref m0), (3, .ref o0), (4, .ref d0), (5, .int (nI (4 * t)))] [] := by
  obtain ⟨rfl, rfl, rfl, rfl, ⟨fo, hO⟩, hD, hXM, nm, ns, mu, hY, hFr, hN⟩ := hW
  obtain ⟨hp1, hp2, hp3⟩ := hp nm ns mu hN
  refine j_aload_n (j := 1) cx dL_law_388 rfl rfl (pc' := 389) rfl ?_
  refine j_aload_n (j := 0) cx dL_law_389 rfl rfl (pc' := 390) rfl ?_
  refine j_iload (j := 5) cx dL_law_390 rfl (pc' := 392) rfl ?_
  refine j_iconst (v := 1) cx dL_law_392 (by decide) (pc' := 393) rfl ?_
  refine j_iadd cx dL_law_393 (pc' := 394) rfl ?_
  refine j_sld (n := 4 * t + 1) cx hX hb0 (nI_add (4 * t) 1) (by omega) dL_law_394 (pc' := 395) rfl ?_
  refine j_aload_n (j := 3) cx dL_law_395 rfl rfl (pc' := 396) rfl ?_
  refine j_cSW (cells1 := cells + 2) (slots1 := slots + 12) (As := [.ref (al 0 0), .int (xs (4 * t + 1)), .ref (al 70 0)]) (rest := []) cx (c_L_putUp hl0 hY hN.2.1.1 hO) gL_law_L_putUp rfl rfl rfl 3 rfl (by decide +kernel) ⟨(by show 11 + 1 ≤ _; omega), (by show 8 + (4 + 11) + 197 ≤ _; omega)⟩ rfl (Nat.le_of_ble_eq_true rfl) dL_law_396 ⟨by omega, by omega⟩ (pc' := 399) rfl rfl rfl (fun v9 al9 sh9 S9 h9 => ?_)
  obtain ⟨e1, e2, h9⟩ := h9
  subst v9 al9
  by_cases hk0 : kc_putUp S nm ns mu (xs (4 * t + 1)) = 0
  · rw [if_pos hk0] at h9
    obtain ⟨e3, e4⟩ := h9
    subst sh9 S9
    obtain ⟨q1, q2, q3, q4, q5⟩ := hp3 hk0
    refine J.stk (st2 := [.int 0]) (congrArg (fun z => [Value.int z]) hk0) ?_
    have hXM1 : YM Z (shp sh 70 0 (yLo Z (vp_updL fo 0 (rc_putUp S nm ns mu (xs (4 * t + 1))).toInt64))) := hXM.out (by decide)
    refine j_istore (lv' := [(6, .int 0), (0, .ref b), (1, .ref (al 0 0)), (2, .ref (al 40 0)), (3, .ref (al 70 0)), (4, .ref (al 71 0)), (5, .int (nI (4 * t)))]) cx dL_law_399 (by decide) rfl (pc' := 401) rfl ?_
    refine j_aload_n (j := 3) cx dL_law_401 rfl rfl (pc' := 402) rfl ?_
    refine j_aload_n (j := 1) cx dL_law_402 rfl rfl (pc' := 403) rfl ?_
    refine j_iload (j := 6) cx dL_law_403 rfl (pc' := 405) rfl ?_
    refine j_iconst (v := 1) cx dL_law_405 (by decide) (pc' := 406) rfl ?_
    refine j_iadd cx dL_law_406 (pc' := 407) rfl ?_
    refine j_sld (n := 4 * t + 1) cx hX hb0 (nI_add (4 * t) 1) (by omega) dL_law_407 (pc' := 408) rfl ?_
    refine j_cVP (cells1 := cells + 2 + 0) (slots1 := slots + 12 + 0) (As := [.int (xs (4 * t + 1))]) (rest := []) cx (c_X3_putUp hXM1 q1) gL_law_X3_putUp rfl rfl rfl 1 rfl (by decide +kernel) ⟨(by show 2 + 1 ≤ _; omega), (by show 8 + (2 + 11) + 44 ≤ _; omega)⟩ hXM1.1 rfl rfl rfl rfl (Nat.le_of_ble_eq_true rfl) dL_law_408 ⟨by omega, by omega⟩ (pc' := 411) rfl rfl rfl (fun v9 al9 sh9 S9 h9 => ?_)
    obtain ⟨e1, e2, h9⟩ := h9
    subst al9 sh9
    rw [if_pos q2] at h9
    obtain ⟨e5, e6⟩ := h9
    subst v9 S9
    refine J.stk (st2 := [.int (rc_putUp S nm ns mu (xs (4 * t + 1)))]) (congrArg (fun z => [Value.int z]) q3) ?_
    refine j_istore (lv' := [(7, .int (rc_putUp S nm ns mu (xs (4 * t + 1)))), (6, .int 0), (0, .ref b), (1, .ref (al 0 0)), (2, .ref (al 40 0)), (3, .ref (al 70 0)), (4, .ref (al 71 0)), (5, .int (nI (4 * t)))]) cx dL_law_411 (by decide) rfl (pc' := 413) rfl ?_
    refine j_aload_n (j := 4) cx dL_law_413 rfl rfl (pc' := 414) rfl ?_
    refine j_cVP (cells1 := cells + 2 + 0 + 0) (slots1 := slots + 12 + 0 + 0) (As := []) (rest := []) cx (c_X3_thrown hXM1) gL_law_X3_thrown rfl rfl rfl 0 rfl (by decide +kernel) ⟨(by show 0 + 1 ≤ _; omega), (by show 8 + (1 + 11) + 0 ≤ _; omega)⟩ hXM1.1 rfl rfl rfl rfl (Nat.le_of_ble_eq_true rfl) dL_law_414 ⟨by omega, by omega⟩ (pc' := 417) rfl rfl rfl (fun v9 al9 sh9 S9 h9 => ?_)
    obtain ⟨e1, e2, e3, e4⟩ := h9
    subst v9 al9 sh9 S9
    refine J.stk (st2 := [.int 0]) (congrArg (fun z => [Value.int z]) q4) ?_
    refine j_iload (j := 1) cx dL_law_417 rfl (pc' := 419) rfl ?_
    refine j_icmp_eq (tgt := 424) cx dL_law_419 (by decide) (pc' := 422) rfl (fun _ => ?_) (fun h => absurd rfl h)
    refine j_iload (j := 1) cx dL_law_424 rfl (pc' := 426) rfl ?_
    refine j_if_ne (tgt := 441) cx dL_law_426 (by decide) (pc' := 429) rfl (fun h => absurd rfl h) (fun _ => ?_)
    refine j_aload_n (j := 5) cx dL_law_429 rfl rfl (pc' := 430) rfl ?_
    refine j_iconst (v := 0) cx dL_law_430 (by decide) (pc' := 431) rfl ?_
    refine j_laldX cx (shp_self _ _ _ _) rfl rfl dL_law_431 (pc' := 432) rfl ?_
    refine j_iload (j := 0) cx dL_law_432 rfl (pc' := 434) rfl ?_
    refine j_i2l cx dL_law_434 rfl (pc' := 435) rfl ?_
    refine j_lcmp cx dL_law_435 (pc' := 436) rfl ?_
    refine j_if_eq (tgt := 441) cx dL_law_436 (by decide) (pc' := 439) rfl (fun _ => ?_) (fun h => absurd (lcmp_self _) h)
    refine j_goto (tgt := 1884) cx dL_law_441 (by decide) ?_
    refine J.sub [2, 3, 4, 5, 6, 7] rfl (J.widen (k := cells + 20) (n := slots + 300) (by omega) (by omega) (hk _ _ _ ?_))
    exact ⟨rfl, rfl, rfl, rfl, ⟨_, shp_self _ _ _ _⟩, hD.imp (fun f hf => (shp_ne _ _ (by omega)).trans hf), hXM1, nm, ns, mu, hY.out (by decide), hFr.out (by decide), q5⟩
  · rw [if_neg hk0] at h9
    obtain ⟨e3, e4⟩ := h9
    subst sh9 S9
    have hXM1 := hXM
    refine J.stk (st2 := [.int (kc_putUp S nm ns mu (xs (4 * t + 1)))]) rfl ?_
    refine j_istore (lv' := [(6, .int (kc_putUp S nm ns mu (xs (4 * t + 1)))), (0, .ref b), (1, .ref (al 0 0)), (2, .ref (al 40 0)), (3, .ref (al 70 0)), (4, .ref (al 71 0)), (5, .int (nI (4 * t)))]) cx dL_law_399 (by decide) rfl (pc' := 401) rfl ?_
    refine j_aload_n (j := 3) cx dL_law_401 rfl rfl (pc' := 402) rfl ?_
    refine j_aload_n (j := 1) cx dL_law_402 rfl rfl (pc' := 403) rfl ?_
    refine j_iload (j := 6) cx dL_law_403 rfl (pc' := 405) rfl ?_
    refine j_iconst (v := 1) cx dL_law_405 (by decide) (pc' := 406) rfl ?_
    refine j_iadd cx dL_law_406 (pc' := 407) rfl ?_
    refine j_sld (n := 4 * t + 1) cx hX hb0 (nI_add (4 * t) 1) (by omega) dL_law_407 (pc' := 408) rfl ?_
    refine j_cVP (cells1 := cells + 2 + 0) (slots1 := slots + 12 + 0) (As := [.int (xs (4 * t + 1))]) (rest := []) cx (c_X3_putUp hXM1 hN.1) gL_law_X3_putUp rfl rfl rfl 1 rfl (by decide +kernel) ⟨(by show 2 + 1 ≤ _; omega), (by show 8 + (2 + 11) + 44 ≤ _; omega)⟩ hXM1.1 rfl rfl rfl rfl (Nat.le_of_ble_eq_true rfl) dL_law_408 ⟨by omega, by omega⟩ (pc' := 411) rfl rfl rfl (fun v9 al9 sh9 S9 h9 => ?_)
    obtain ⟨e1, e2, h9⟩ := h9
    subst al9 sh9
    have hm0 : ¬ km_putUp S nm ns mu (xs (4 * t + 1)) = 0 := by rw [← hp1]; exact hk0
    rw [if_neg hm0] at h9
    obtain ⟨e5, e6⟩ := h9
    subst v9 S9
    refine J.stk (st2 := [.int 0]) rfl ?_
    refine j_istore (lv' := [(7, .int 0), (6, .int (kc_putUp S nm ns mu (xs (4 * t + 1)))), (0, .ref b), (1, .ref (al 0 0)), (2, .ref (al 40 0)), (3, .ref (al 70 0)), (4, .ref (al 71 0)), (5, .int (nI (4 * t)))]) cx dL_law_411 (by decide) rfl (pc' := 413) rfl ?_
    refine j_aload_n (j := 4) cx dL_law_413 rfl rfl (pc' := 414) rfl ?_
    refine j_cVP (cells1 := cells + 2 + 0 + 0) (slots1 := slots + 12 + 0 + 0) (As := []) (rest := []) cx (c_X3_thrown hXM1) gL_law_X3_thrown rfl rfl rfl 0 rfl (by decide +kernel) ⟨(by show 0 + 1 ≤ _; omega), (by show 8 + (1 + 11) + 0 ≤ _; omega)⟩ hXM1.1 rfl rfl rfl rfl (Nat.le_of_ble_eq_true rfl) dL_law_414 ⟨by omega, by omega⟩ (pc' := 417) rfl rfl rfl (fun v9 al9 sh9 S9 h9 => ?_)
    obtain ⟨e1, e2, e3, e4⟩ := h9
    subst v9 al9 sh9 S9
    refine J.stk (st2 := [.int (kc_putUp S nm ns mu (xs (4 * t + 1)))]) (congrArg (fun z => [Value.int z]) ((sup_self _ _ _ _ _).trans hp1.symm)) ?_
    refine j_iload (j := 1) cx dL_law_417 rfl (pc' := 419) rfl ?_
    refine j_icmp_eq (tgt := 424) cx dL_law_419 (by decide) (pc' := 422) rfl (fun _ => ?_) (fun h => absurd rfl h)
    refine j_iload (j := 1) cx dL_law_424 rfl (pc' := 426) rfl ?_
    refine j_if_ne (tgt := 441) cx dL_law_426 (by decide) (pc' := 429) rfl (fun _ => ?_) (fun h => absurd h hk0)
    refine j_goto (tgt := 1884) cx dL_law_441 (by decide) ?_
    refine J.sub [2, 3, 4, 5, 6, 7] rfl (J.widen (k := cells + 20) (n := slots + 300) (by omega) (by omega) (hk _ _ _ ?_))
    exact ⟨rfl, rfl, rfl, rfl, ⟨fo, hO⟩, hD, hXM, nm, ns, mu, hY, hFr, Eq.mp (congrArg (fun z => IN (sup S 40 0 0 z) nm ns mu (K + 5000)) hp1) (hp2 hk0)⟩
set_option maxHeartbeats 4000000 in
set_option maxRecDepth 100000 in
theorem l_machine {p : Program} {l : Launch} {e : Env} {R : Room} {s : State} {m : MethodId} {args : Array Value} {below : List Frame} {meth : Method} {c : Code} {cells slots : Nat} {Q : State → Prop} {Z : yL} {al : yAl} {sh : ySh} {S : yS} {b L t K x0 m0 o0 d0 : Nat} {xs : Nat → Int32} (hl0 : l.stackTraces = false) (cx : Cx p s m args c code 9 RL wsL_law Z) (hX : va_X b L xs s s.heap) (hb0 : b < s.heap.size ∧ ¬ Z.2.2.1 ≤ b) (hR : 20 ≤ R.frames ∧ 10000 ≤ R.locals ∧ cells + 20 ≤ R.cells ∧ slots + 300 ≤ R.slots) (ht : 4 * t + 4 ≤ L ∧ L ≤ 2048) (hW : WI Z x0 m0 o0 d0 K al sh S) (hp : ∀ nm ns mu, IN S nm ns mu K → P_machine S nm ns mu K (xs (4 * t + 1))) (hk : ∀ al9 sh9 S9, WI Z x0 m0 o0 d0 (K + 5000) al9 sh9 S9 → J p l e R s m args below meth c 9 Z (cells + 20) (slots + 300) Q al9 sh9 S9 1884 [(0, .ref b), (1, .ref x0), (2, .ref m0), (3, .ref o0), (4, .ref d0), (5, .int (nI (4 * t)))] []) : J p l e R s m args below meth c 9 Z cells slots Q al sh S 444 [(0, .ref b), (1, .ref x0), (2, .ref m0), (3, .ref o0), (4, .ref d0), (5, .int (nI (4 * t)))] [] := by
  obtain ⟨rfl, rfl, rfl, rfl, ⟨fo, hO⟩, hD, hXM, nm, ns, mu, hY, hFr, hN⟩ := hW
  obtain ⟨hp1, hp2, hp3⟩ := hp nm ns mu hN
  refine j_aload_n (j := 1) cx dL_law_444 rfl rfl (pc' := 445) rfl ?_
  refine j_aload_n (j := 0) cx dL_law_445 rfl rfl (pc' := 446) rfl ?_
  refine j_iload (j := 5) cx dL_law_446 rfl (pc' := 448) rfl ?_
  refine j_iconst (v := 1) cx dL_law_448 (by decide) (pc' := 449) rfl ?_
  refine j_iadd cx dL_law_449 (pc' := 450) rfl ?_
  refine j_sld (n := 4 * t + 1) cx hX hb0 (nI_add (4 * t) 1) (by omega) dL_law_450 (pc' := 451) rfl ?_
  refine j_aload_n (j := 3) cx dL_law_451 rfl rfl (pc' := 452) rfl ?_
  refine j_cSW (cells1 := cells + 1) (slots1 := slots + 6) (As := [.ref (al 0 0), .int (xs (4 * t + 1)), .ref (al 70 0)]) (rest := []) cx (c_L_machine hl0 hY hN.2.1.1 hN.2.2.1.2.1 hO) gL_law_L_machine rfl rfl rfl 3 rfl (by decide +kernel) ⟨(by show 11 + 1 ≤ _; omega), (by show 8 + (4 + 11) + 196 ≤ _; omega)⟩ rfl (Nat.le_of_ble_eq_true rfl) dL_law_452 ⟨by omega, by omega⟩ (pc' := 455) rfl rfl rfl (fun v9 al9 sh9 S9 h9 => ?_)
  obtain ⟨e1, e2, h9⟩ := h9
  subst v9 al9
  by_cases hk0 : kc_machine S nm ns mu (xs (4 * t + 1)) = 0
  · rw [if_pos hk0] at h9
    obtain ⟨e3, e4⟩ := h9
    subst sh9 S9
    obtain ⟨q1, q2, q3, q4, q5⟩ := hp3 hk0
    refine J.stk (st2 := [.int 0]) (congrArg (fun z => [Value.int z]) hk0) ?_
    have hXM1 : YM Z (shp sh 70 0 (yLo Z (vp_updL fo 0 (rc_machine S nm ns mu (xs (4 * t + 1))).toInt64))) := hXM.out (by decide)
    refine j_istore (lv' := [(6, .int 0), (0, .ref b), (1, .ref (al 0 0)), (2, .ref (al 40 0)), (3, .ref (al 70 0)), (4, .ref (al 71 0)), (5, .int (nI (4 * t)))]) cx dL_law_455 (by decide) rfl (pc' := 457) rfl ?_
    refine j_aload_n (j := 3) cx dL_law_457 rfl rfl (pc' := 458) rfl ?_
    refine j_aload_n (j := 1) cx dL_law_458 rfl rfl (pc' := 459) rfl ?_
    refine j_iload (j := 6) cx dL_law_459 rfl (pc' := 461) rfl ?_
    refine j_iconst (v := 1) cx dL_law_461 (by decide) (pc' := 462) rfl ?_
    refine j_iadd cx dL_law_462 (pc' := 463) rfl ?_
    refine j_sld (n := 4 * t + 1) cx hX hb0 (nI_add (4 * t) 1) (by omega) dL_law_463 (pc' := 464) rfl ?_
    refine j_cVP (cells1 := cells + 1 + 0) (slots1 := slots + 6 + 0) (As := [.int (xs (4 * t + 1))]) (rest := []) cx (c_X3_machine hXM1 q1) gL_law_X3_machine rfl rfl rfl 1 rfl (by decide +kernel) ⟨(by show 2 + 1 ≤ _; omega), (by show 8 + (2 + 11) + 43 ≤ _; omega)⟩ hXM1.1 rfl rfl rfl rfl (Nat.le_of_ble_eq_true rfl) dL_law_464 ⟨by omega, by omega⟩ (pc' := 467) rfl rfl rfl (fun v9 al9 sh9 S9 h9 => ?_)
    obtain ⟨e1, e2, h9⟩ := h9
    subst al9 sh9
    rw [if_pos q2] at h9
    obtain ⟨e5, e6⟩ := h9
    subst v9 S9
    refine J.stk (st2 := [.int (rc_machine S nm ns mu (xs (4 * t + 1)))]) (congrArg (fun z => [Value.int z]) q3) ?_
    refine j_istore (lv' := [(7, .int (rc_machine S nm ns mu (xs (4 * t + 1)))), (6, .int 0), (0, .ref b), (1, .ref (al 0 0)), (2, .ref (al 40 0)), (3, .ref (al 70 0)), (4, .ref (al 71 0)), (5, .int (nI (4 * t)))]) cx dL_law_467 (by decide) rfl (pc' := 469) rfl ?_
    refine j_aload_n (j := 4) cx dL_law_469 rfl rfl (pc' := 470) rfl ?_
    refine j_cVP (cells1 := cells + 1 + 0 + 0) (slots1 := slots + 6 + 0 + 0) (As := []) (rest := []) cx (c_X3_thrown hXM1) gL_law_X3_thrown rfl rfl rfl 0 rfl (by decide +kernel) ⟨(by show 0 + 1 ≤ _; omega), (by show 8 + (1 + 11) + 0 ≤ _; omega)⟩ hXM1.1 rfl rfl rfl rfl (Nat.le_of_ble_eq_true rfl) dL_law_470 ⟨by omega, by omega⟩ (pc' := 473) rfl rfl rfl (fun v9 al9 sh9 S9 h9 => ?_)
    obtain ⟨e1, e2, e3, e4⟩ := h9
    subst v9 al9 sh9 S9
    refine J.stk (st2 := [.int 0]) (congrArg (fun z => [Value.int z]) q4) ?_
    refine j_iload (j := 1) cx dL_law_473 rfl (pc' := 475) rfl ?_
    refine j_icmp_eq (tgt := 480) cx dL_law_475 (by decide) (pc' := 478) rfl (fun _ => ?_) (fun h => absurd rfl h)
    refine j_iload (j := 1) cx dL_law_480 rfl (pc' := 482) rfl ?_
    refine j_if_ne (tgt := 497) cx dL_law_482 (by decide) (pc' := 485) rfl (fun h => absurd rfl h) (fun _ => ?_)
    refine j_aload_n (j := 5) cx dL_law_485 rfl rfl (pc' := 486) rfl ?_
    refine j_iconst (v := 0) cx dL_law_486 (by decide) (pc' := 487) rfl ?_
    refine j_laldX cx (shp_self _ _ _ _) rfl rfl dL_law_487 (pc' := 488) rfl ?_
    refine j_iload (j := 0) cx dL_law_488 rfl (pc' := 490) rfl ?_
    refine j_i2l cx dL_law_490 rfl (pc' := 491) rfl ?_
    refine j_lcmp cx dL_law_491 (pc' := 492) rfl ?_
    refine j_if_eq (tgt := 497) cx dL_law_492 (by decide) (pc' := 495) rfl (fun _ => ?_) (fun h => absurd (lcmp_self _) h)
    refine j_goto (tgt := 1884) cx dL_law_497 (by decide) ?_
    refine J.sub [2, 3, 4, 5, 6, 7] rfl (J.widen (k := cells + 20) (n := slots + 300) (by omega) (by omega) (hk _ _ _ ?_))
    exact ⟨rfl, rfl, rfl, rfl, ⟨_, shp_self _ _ _ _⟩, hD.imp (fun f hf => (shp_ne _ _ (by omega)).trans hf), hXM1, nm, ns, mu, hY.out (by decide), hFr.out (by decide), q5⟩
  · rw [if_neg hk0] at h9
    obtain ⟨e3, e4⟩ := h9
    subst sh9 S9
    have hXM1 := hXM
    refine J.stk (st2 := [.int (kc_machine S nm ns mu (xs (4 * t + 1)))]) rfl ?_
    refine j_istore (lv' := [(6, .int (kc_machine S nm ns mu (xs (4 * t + 1)))), (0, .ref b), (1, .ref (al 0 0)), (2, .ref (al 40 0)), (3, .ref (al 70 0)), (4, .ref (al 71 0)), (5, .int (nI (4 * t)))]) cx dL_law_455 (by decide) rfl (pc' := 457) rfl ?_
    refine j_aload_n (j := 3) cx dL_law_457 rfl rfl (pc' := 458) rfl ?_
    refine j_aload_n (j := 1) cx dL_law_458 rfl rfl (pc' := 459) rfl ?_
    refine j_iload (j := 6) cx dL_law_459 rfl (pc' := 461) rfl ?_
    refine j_iconst (v := 1) cx dL_law_461 (by decide) (pc' := 462) rfl ?_
    refine j_iadd cx dL_law_462 (pc' := 463) rfl ?_
    refine j_sld (n := 4 * t + 1) cx hX hb0 (nI_add (4 * t) 1) (by omega) dL_law_463 (pc' := 464) rfl ?_
    refine j_cVP (cells1 := cells + 1 + 0) (slots1 := slots + 6 + 0) (As := [.int (xs (4 * t + 1))]) (rest := []) cx (c_X3_machine hXM1 hN.1) gL_law_X3_machine rfl rfl rfl 1 rfl (by decide +kernel) ⟨(by show 2 + 1 ≤ _; omega), (by show 8 + (2 + 11) + 43 ≤ _; omega)⟩ hXM1.1 rfl rfl rfl rfl (Nat.le_of_ble_eq_true rfl) dL_law_464 ⟨by omega, by omega⟩ (pc' := 467) rfl rfl rfl (fun v9 al9 sh9 S9 h9 => ?_)
    obtain ⟨e1, e2, h9⟩ := h9
    subst al9 sh9
    have hm0 : ¬ km_machine S nm ns mu (xs (4 * t + 1)) = 0 := by rw [← hp1]; exact hk0
    rw [if_neg hm0] at h9
    obtain ⟨e5, e6⟩ := h9
    subst v9 S9
    refine J.stk (st2 := [.int 0]) rfl ?_
    refine j_istore (lv' := [(7, .int 0), (6, .int (kc_machine S nm ns mu (xs (4 * t + 1)))), (0, .ref b), (1, .ref (al 0 0)), (2, .ref (al 40 0)), (3, .ref (al 70 0)), (4, .ref (al 71 0)), (5, .int (nI (4 * t)))]) cx dL_law_467 (by decide) rfl (pc' := 469) rfl ?_
    refine j_aload_n (j := 4) cx dL_law_469 rfl rfl (pc' := 470) rfl ?_
    refine j_cVP (cells1 := cells + 1 + 0 + 0) (slots1 := slots + 6 + 0 + 0) (As := []) (rest := []) cx (c_X3_thrown hXM1) gL_law_X3_thrown rfl rfl rfl 0 rfl (by decide +kernel) ⟨(by show 0 + 1 ≤ _; omega), (by show 8 + (1 + 11) + 0 ≤ _; omega)⟩ hXM1.1 rfl rfl rfl rfl (Nat.le_of_ble_eq_true rfl) dL_law_470 ⟨by omega, by omega⟩ (pc' := 473) rfl rfl rfl (fun v9 al9 sh9 S9 h9 => ?_)
    obtain ⟨e1, e2, e3, e4⟩ := h9
    subst v9 al9 sh9 S9
    refine J.stk (st2 := [.int (kc_machine S nm ns mu (xs (4 * t + 1)))]) (congrArg (fun z => [Value.int z]) ((sup_self _ _ _ _ _).trans hp1.symm)) ?_
    refine j_iload (j := 1) cx dL_law_473 rfl (pc' := 475) rfl ?_
    refine j_icmp_eq (tgt := 480) cx dL_law_475 (by decide) (pc' := 478) rfl (fun _ => ?_) (fun h => absurd rfl h)
    refine j_iload (j := 1) cx dL_law_480 rfl (pc' := 482) rfl ?_
    refine j_if_ne (tgt := 497) cx dL_law_482 (by decide) (pc' := 485) rfl (fun _ => ?_) (fun h => absurd h hk0)
    refine j_goto (tgt := 1884) cx dL_law_497 (by decide) ?_
    refine J.sub [2, 3, 4, 5, 6, 7] rfl (J.widen (k := cells + 20) (n := slots + 300) (by omega) (by omega) (hk _ _ _ ?_))
    exact ⟨rfl, rfl, rfl, rfl, ⟨fo, hO⟩, hD, hXM, nm, ns, mu, hY, hFr, Eq.mp (congrArg (fun z => IN (sup S 40 0 0 z) nm ns mu (K + 5000)) hp1) (hp2 hk0)⟩
set_option maxHeartbeats 4000000 in
set_option maxRecDepth 100000 in
theorem l_next {p : Program} {l : Launch} {e : Env} {R : Room} {s : State} {m : MethodId} {args : Array Value} {below : List Frame} {meth : Method} {c : Code} {cells slots : Nat} {Q : State → Prop} {Z : yL} {al : yAl} {sh : ySh} {S : yS} {b L t K x0 m0 o0 d0 : Nat} {xs : Nat → Int32} (hl0 : l.stackTraces = false) (cx : Cx p s m args c code 9 RL wsL_law Z) (hX : va_X b L xs s s.heap) (hb0 : b < s.heap.size ∧ ¬ Z.2.2.1 ≤ b) (hR : 20 ≤ R.frames ∧ 10000 ≤ R.locals ∧ cells + 20 ≤ R.cells ∧ slots + 300 ≤ R.slots) (ht : 4 * t + 4 ≤ L ∧ L ≤ 2048) (hW : WI Z x0 m0 o0 d0 K al sh S) (hp : ∀ nm ns mu, IN S nm ns mu K → P_next S nm ns mu K (xs (4 * t + 1))) (hk : ∀ al9 sh9 S9, WI Z x0 m0 o0 d0 (K + 5000) al9 sh9 S9 → J p l e R s m args below meth c 9 Z (cells + 20) (slots + 300) Q al9 sh9 S9 1884 [(0, .ref b), (1, .ref x0), (2, .ref m0), (3, .ref o0), (4, .ref d0), (5, .int (nI (4 * t)))] []) : J p l e R s m args below meth c 9 Z cells slots Q al sh S 500 [(0, .ref b), (1, .ref x0), (2, .ref m0), (3, .ref o0), (4, .ref d0), (5, .int (nI (4 * t)))] [] := by
  obtain ⟨rfl, rfl, rfl, rfl, ⟨fo, hO⟩, hD, hXM, nm, ns, mu, hY, hFr, hN⟩ := hW
  obtain ⟨hp1, hp2, hp3⟩ := hp nm ns mu hN
  refine j_aload_n (j := 1) cx dL_law_500 rfl rfl (pc' := 501) rfl ?_
  refine j_aload_n (j := 0) cx dL_law_501 rfl rfl (pc' := 502) rfl ?_
  refine j_iload (j := 5) cx dL_law_502 rfl (pc' := 504) rfl ?_
  refine j_iconst (v := 1) cx dL_law_504 (by decide) (pc' := 505) rfl ?_
  refine j_iadd cx dL_law_505 (pc' := 506) rfl ?_
  refine j_sld (n := 4 * t + 1) cx hX hb0 (nI_add (4 * t) 1) (by omega) dL_law_506 (pc' := 507) rfl ?_
  refine j_aload_n (j := 3) cx dL_law_507 rfl rfl (pc' := 508) rfl ?_
  refine j_cSW (cells1 := cells + 2) (slots1 := slots + 12) (As := [.ref (al 0 0), .int (xs (4 * t + 1)), .ref (al 70 0)]) (rest := []) cx (c_L_next hl0 hY hN.2.1.1 hO) gL_law_L_next rfl rfl rfl 3 rfl (by decide +kernel) ⟨(by show 11 + 1 ≤ _; omega), (by show 8 + (4 + 11) + 199 ≤ _; omega)⟩ rfl (Nat.le_of_ble_eq_true rfl) dL_law_508 ⟨by omega, by omega⟩ (pc' := 511) rfl rfl rfl (fun v9 al9 sh9 S9 h9 => ?_)
  obtain ⟨e1, e2, h9⟩ := h9
  subst v9 al9
  by_cases hk0 : kc_next S nm ns mu (xs (4 * t + 1)) = 0
  · rw [if_pos hk0] at h9
    obtain ⟨e3, e4⟩ := h9
    subst sh9 S9
    obtain ⟨q1, q2, q3, q4, q5⟩ := hp3 hk0
    refine J.stk (st2 := [.int 0]) (congrArg (fun z => [Value.int z]) hk0) ?_
    have hXM1 : YM Z (shp sh 70 0 (yLo Z (vp_updL fo 0 (rc_next S nm ns mu (xs (4 * t + 1))).toInt64))) := hXM.out (by decide)
    refine j_istore (lv' := [(6, .int 0), (0, .ref b), (1, .ref (al 0 0)), (2, .ref (al 40 0)), (3, .ref (al 70 0)), (4, .ref (al 71 0)), (5, .int (nI (4 * t)))]) cx dL_law_511 (by decide) rfl (pc' := 513) rfl ?_
    refine j_aload_n (j := 3) cx dL_law_513 rfl rfl (pc' := 514) rfl ?_
    refine j_aload_n (j := 1) cx dL_law_514 rfl rfl (pc' := 515) rfl ?_
    refine j_iload (j := 6) cx dL_law_515 rfl (pc' := 517) rfl ?_
    refine j_iconst (v := 1) cx dL_law_517 (by decide) (pc' := 518) rfl ?_
    refine j_iadd cx dL_law_518 (pc' := 519) rfl ?_
    refine j_sld (n := 4 * t + 1) cx hX hb0 (nI_add (4 * t) 1) (by omega) dL_law_519 (pc' := 520) rfl ?_
    refine j_cVP (cells1 := cells + 2 + 0) (slots1 := slots + 12 + 0) (As := [.int (xs (4 * t + 1))]) (rest := []) cx (c_X3_next hXM1 q1) gL_law_X3_next rfl rfl rfl 1 rfl (by decide +kernel) ⟨(by show 3 + 1 ≤ _; omega), (by show 8 + (3 + 11) + 68 ≤ _; omega)⟩ hXM1.1 rfl rfl rfl rfl (Nat.le_of_ble_eq_true rfl) dL_law_520 ⟨by omega, by omega⟩ (pc' := 523) rfl rfl rfl (fun v9 al9 sh9 S9 h9 => ?_)
    obtain ⟨e1, e2, h9⟩ := h9
    subst al9 sh9
    rw [if_pos q2] at h9
    obtain ⟨e5, e6⟩ := h9
    subst v9 S9
    refine J.stk (st2 := [.int (rc_next S nm ns mu (xs (4 * t + 1)))]) (congrArg (fun z => [Value.int z]) q3) ?_
    refine j_istore (lv' := [(7, .int (rc_next S nm ns mu (xs (4 * t + 1)))), (6, .int 0), (0, .ref b), (1, .ref (al 0 0)), (2, .ref (al 40 0)), (3, .ref (al 70 0)), (4, .ref (al 71 0)), (5, .int (nI (4 * t)))]) cx dL_law_523 (by decide) rfl (pc' := 525) rfl ?_
    refine j_aload_n (j := 4) cx dL_law_525 rfl rfl (pc' := 526) rfl ?_
    refine j_cVP (cells1 := cells + 2 + 0 + 0) (slots1 := slots + 12 + 0 + 0) (As := []) (rest := []) cx (c_X3_thrown hXM1) gL_law_X3_thrown rfl rfl rfl 0 rfl (by decide +kernel) ⟨(by show 0 + 1 ≤ _; omega), (by show 8 + (1 + 11) + 0 ≤ _; omega)⟩ hXM1.1 rfl rfl rfl rfl (Nat.le_of_ble_eq_true rfl) dL_law_526 ⟨by omega, by omega⟩ (pc' := 529) rfl rfl rfl (fun v9 al9 sh9 S9 h9 => ?_)
    obtain ⟨e1, e2, e3, e4⟩ := h9
    subst v9 al9 sh9 S9
    refine J.stk (st2 := [.int 0]) (congrArg (fun z => [Value.int z]) q4) ?_
    refine j_iload (j := 1) cx dL_law_529 rfl (pc' := 531) rfl ?_
    refine j_icmp_eq (tgt := 536) cx dL_law_531 (by decide) (pc' := 534) rfl (fun _ => ?_) (fun h => absurd rfl h)
    refine j_iload (j := 1) cx dL_law_536 rfl (pc' := 538) rfl ?_
    refine j_if_ne (tgt := 553) cx dL_law_538 (by decide) (pc' := 541) rfl (fun h => absurd rfl h) (fun _ => ?_)
    refine j_aload_n (j := 5) cx dL_law_541 rfl rfl (pc' := 542) rfl ?_
    refine j_iconst (v := 0) cx dL_law_542 (by decide) (pc' := 543) rfl ?_
    refine j_laldX cx (shp_self _ _ _ _) rfl rfl dL_law_543 (pc' := 544) rfl ?_
    refine j_iload (j := 0) cx dL_law_544 rfl (pc' := 546) rfl ?_
    refine j_i2l cx dL_law_546 rfl (pc' := 547) rfl ?_
    refine j_lcmp cx dL_law_547 (pc' := 548) rfl ?_
    refine j_if_eq (tgt := 553) cx dL_law_548 (by decide) (pc' := 551) rfl (fun _ => ?_) (fun h => absurd (lcmp_self _) h)
    refine j_goto (tgt := 1884) cx dL_law_553 (by decide) ?_
    refine J.sub [2, 3, 4, 5, 6, 7] rfl (J.widen (k := cells + 20) (n := slots + 300) (by omega) (by omega) (hk _ _ _ ?_))
    exact ⟨rfl, rfl, rfl, rfl, ⟨_, shp_self _ _ _ _⟩, hD.imp (fun f hf => (shp_ne _ _ (by omega)).trans hf), hXM1, nm, ns, mu, hY.out (by decide), hFr.out (by decide), q5⟩
  · rw [if_neg hk0] at h9
    obtain ⟨e3, e4⟩ := h9
    subst sh9 S9
    have hXM1 := hXM
    refine J.stk (st2 := [.int (kc_next S nm ns mu (xs (4 * t + 1)))]) rfl ?_
    refine j_istore (lv' := [(6, .int (kc_next S nm ns mu (xs (4 * t + 1)))), (0, .ref b), (1, .ref (al 0 0)), (2, .ref (al 40 0)), (3, .ref (al 70 0)), (4, .ref (al 71 0)), (5, .int (nI (4 * t)))]) cx dL_law_511 (by decide) rfl (pc' := 513) rfl ?_
    refine j_aload_n (j := 3) cx dL_law_513 rfl rfl (pc' := 514) rfl ?_
    refine j_aload_n (j := 1) cx dL_law_514 rfl rfl (pc' := 515) rfl ?_
    refine j_iload (j := 6) cx dL_law_515 rfl (pc' := 517) rfl ?_
    refine j_iconst (v := 1) cx dL_law_517 (by decide) (pc' := 518) rfl ?_
    refine j_iadd cx dL_law_518 (pc' := 519) rfl ?_
    refine j_sld (n := 4 * t + 1) cx hX hb0 (nI_add (4 * t) 1) (by omega) dL_law_519 (pc' := 520) rfl ?_
    refine j_cVP (cells1 := cells + 2 + 0) (slots1 := slots + 12 + 0) (As := [.int (xs (4 * t + 1))]) (rest := []) cx (c_X3_next hXM1 hN.1) gL_law_X3_next rfl rfl rfl 1 rfl (by decide +kernel) ⟨(by show 3 + 1 ≤ _; omega), (by show 8 + (3 + 11) + 68 ≤ _; omega)⟩ hXM1.1 rfl rfl rfl rfl (Nat.le_of_ble_eq_true rfl) dL_law_520 ⟨by omega, by omega⟩ (pc' := 523) rfl rfl rfl (fun v9 al9 sh9 S9 h9 => ?_)
    obtain ⟨e1, e2, h9⟩ := h9
    subst al9 sh9
    have hm0 : ¬ km_next S nm ns mu (xs (4 * t + 1)) = 0 := by rw [← hp1]; exact hk0
    rw [if_neg hm0] at h9
    obtain ⟨e5, e6⟩ := h9
    subst v9 S9
    refine J.stk (st2 := [.int 0]) rfl ?_
    refine j_istore (lv' := [(7, .int 0), (6, .int (kc_next S nm ns mu (xs (4 * t + 1)))), (0, .ref b), (1, .ref (al 0 0)), (2, .ref (al 40 0)), (3, .ref (al 70 0)), (4, .ref (al 71 0)), (5, .int (nI (4 * t)))]) cx dL_law_523 (by decide) rfl (pc' := 525) rfl ?_
    refine j_aload_n (j := 4) cx dL_law_525 rfl rfl (pc' := 526) rfl ?_
    refine j_cVP (cells1 := cells + 2 + 0 + 0) (slots1 := slots + 12 + 0 + 0) (As := []) (rest := []) cx (c_X3_thrown hXM1) gL_law_X3_thrown rfl rfl rfl 0 rfl (by decide +kernel) ⟨(by show 0 + 1 ≤ _; omega), (by show 8 + (1 + 11) + 0 ≤ _; omega)⟩ hXM1.1 rfl rfl rfl rfl (Nat.le_of_ble_eq_true rfl) dL_law_526 ⟨by omega, by omega⟩ (pc' := 529) rfl rfl rfl (fun v9 al9 sh9 S9 h9 => ?_)
    obtain ⟨e1, e2, e3, e4⟩ := h9
    subst v9 al9 sh9 S9
    refine J.stk (st2 := [.int (kc_next S nm ns mu (xs (4 * t + 1)))]) (congrArg (fun z => [Value.int z]) ((sup_self _ _ _ _ _).trans hp1.symm)) ?_
    refine j_iload (j := 1) cx dL_law_529 rfl (pc' := 531) rfl ?_
    refine j_icmp_eq (tgt := 536) cx dL_law_531 (by decide) (pc' := 534) rfl (fun _ => ?_) (fun h => absurd rfl h)
    refine j_iload (j := 1) cx dL_law_536 rfl (pc' := 538) rfl ?_
    refine j_if_ne (tgt := 553) cx dL_law_538 (by decide) (pc' := 541) rfl (fun _ => ?_) (fun h => absurd h hk0)
    refine j_goto (tgt := 1884) cx dL_law_553 (by decide) ?_
    refine J.sub [2, 3, 4, 5, 6, 7] rfl (J.widen (k := cells + 20) (n := slots + 300) (by omega) (by omega) (hk _ _ _ ?_))
    exact ⟨rfl, rfl, rfl, rfl, ⟨fo, hO⟩, hD, hXM, nm, ns, mu, hY, hFr, Eq.mp (congrArg (fun z => IN (sup S 40 0 0 z) nm ns mu (K + 5000)) hp1) (hp2 hk0)⟩
set_option maxHeartbeats 4000000 in
set_option maxRecDepth 100000 in
theorem l_free {p : Program} {l : Launch} {e : Env} {R : Room} {s : State} {m : MethodId} {args : Array Value} {below : List Frame} {meth : Method} {c : Code} {cells slots : Nat} {Q : State → Prop} {Z : yL} {al : yAl} {sh : ySh} {S : yS} {b L t K x0 m0 o0 d0 : Nat} {xs : Nat → Int32} (hl0 : l.stackTraces = false) (cx : Cx p s m args c code 9 RL wsL_law Z) (hX : va_X b L xs s s.heap) (hb0 : b < s.heap.size ∧ ¬ Z.2.2.1 ≤ b) (hR : 20 ≤ R.frames ∧ 10000 ≤ R.locals ∧ cells + 20 ≤ R.cells ∧ slots + 300 ≤ R.slots) (ht : 4 * t + 4 ≤ L ∧ L ≤ 2048) (hW : WI Z x0 m0 o0 d0 K al sh S) (hp : ∀ nm ns mu, IN S nm ns mu K → P_free S nm ns mu K (xs (4 * t + 1))) (hk : ∀ al9 sh9 S9, WI Z x0 m0 o0 d0 (K + 5000) al9 sh9 S9 → J p l e R s m args below meth c 9 Z (cells + 20) (slots + 300) Q al9 sh9 S9 1884 [(0, .ref b), (1, .ref x0), (2, .ref m0), (3, .ref o0), (4, .ref d0), (5, .int (nI (4 * t)))] []) : J p l e R s m args below meth c 9 Z cells slots Q al sh S 556 [(0, .ref b), (1, .ref x0), (2, .ref m0), (3, .ref o0), (4, .ref d0), (5, .int (nI (4 * t)))] [] := by
  obtain ⟨rfl, rfl, rfl, rfl, ⟨fo, hO⟩, hD, hXM, nm, ns, mu, hY, hFr, hN⟩ := hW
  obtain ⟨hp1, hp2, hp3⟩ := hp nm ns mu hN
  refine j_aload_n (j := 1) cx dL_law_556 rfl rfl (pc' := 557) rfl ?_
  refine j_aload_n (j := 0) cx dL_law_557 rfl rfl (pc' := 558) rfl ?_
  refine j_iload (j := 5) cx dL_law_558 rfl (pc' := 560) rfl ?_
  refine j_iconst (v := 1) cx dL_law_560 (by decide) (pc' := 561) rfl ?_
  refine j_iadd cx dL_law_561 (pc' := 562) rfl ?_
  refine j_sld (n := 4 * t + 1) cx hX hb0 (nI_add (4 * t) 1) (by omega) dL_law_562 (pc' := 563) rfl ?_
  refine j_aload_n (j := 3) cx dL_law_563 rfl rfl (pc' := 564) rfl ?_
  refine j_cSW (cells1 := cells + 1) (slots1 := slots + 6) (As := [.ref (al 0 0), .int (xs (4 * t + 1)), .ref (al 70 0)]) (rest := []) cx (c_L_free hl0 hY hN.2.1.1 hO) gL_law_L_free rfl rfl rfl 3 rfl (by decide +kernel) ⟨(by show 10 + 1 ≤ _; omega), (by show 8 + (4 + 11) + 178 ≤ _; omega)⟩ rfl (Nat.le_of_ble_eq_true rfl) dL_law_564 ⟨by omega, by omega⟩ (pc' := 567) rfl rfl rfl (fun v9 al9 sh9 S9 h9 => ?_)
  obtain ⟨e1, e2, h9⟩ := h9
  subst v9 al9
  by_cases hk0 : kc_free S nm ns mu (xs (4 * t + 1)) = 0
  · rw [if_pos hk0] at h9
    obtain ⟨e3, e4⟩ := h9
    subst sh9 S9
    obtain ⟨q1, q2, q3, q4, q5⟩ := hp3 hk0
    refine J.stk (st2 := [.int 0]) (congrArg (fun z => [Value.int z]) hk0) ?_
    have hXM1 : YM Z (shp sh 70 0 (yLo Z (vp_updL fo 0 (rc_free S nm ns mu (xs (4 * t + 1))).toInt64))) := hXM.out (by decide)
    refine j_istore (lv' := [(6, .int 0), (0, .ref b), (1, .ref (al 0 0)), (2, .ref (al 40 0)), (3, .ref (al 70 0)), (4, .ref (al 71 0)), (5, .int (nI (4 * t)))]) cx dL_law_567 (by decide) rfl (pc' := 569) rfl ?_
    refine j_aload_n (j := 3) cx dL_law_569 rfl rfl (pc' := 570) rfl ?_
    refine j_aload_n (j := 1) cx dL_law_570 rfl rfl (pc' := 571) rfl ?_
    refine j_iload (j := 6) cx dL_law_571 rfl (pc' := 573) rfl ?_
    refine j_iconst (v := 1) cx dL_law_573 (by decide) (pc' := 574) rfl ?_
    refine j_iadd cx dL_law_574 (pc' := 575) rfl ?_
    refine j_sld (n := 4 * t + 1) cx hX hb0 (nI_add (4 * t) 1) (by omega) dL_law_575 (pc' := 576) rfl ?_
    refine j_cVP (cells1 := cells + 1 + 0) (slots1 := slots + 6 + 0) (As := [.int (xs (4 * t + 1))]) (rest := []) cx (c_X3_free hXM1 q1) gL_law_X3_free rfl rfl rfl 1 rfl (by decide +kernel) ⟨(by show 2 + 1 ≤ _; omega), (by show 8 + (4 + 11) + 44 ≤ _; omega)⟩ hXM1.1 rfl rfl rfl rfl (Nat.le_of_ble_eq_true rfl) dL_law_576 ⟨by omega, by omega⟩ (pc' := 579) rfl rfl rfl (fun v9 al9 sh9 S9 h9 => ?_)
    obtain ⟨e1, e2, h9⟩ := h9
    subst al9 sh9
    rw [if_pos q2] at h9
    obtain ⟨e5, e6⟩ := h9
    subst v9 S9
    refine J.stk (st2 := [.int (rc_free S nm ns mu (xs (4 * t + 1)))]) (congrArg (fun z => [Value.int z]) q3) ?_
    refine j_istore (lv' := [(7, .int (rc_free S nm ns mu (xs (4 * t + 1)))), (6, .int 0), (0, .ref b), (1, .ref (al 0 0)), (2, .ref (al 40 0)), (3, .ref (al 70 0)), (4, .ref (al 71 0)), (5, .int (nI (4 * t)))]) cx dL_law_579 (by decide) rfl (pc' := 581) rfl ?_
    refine j_aload_n (j := 4) cx dL_law_581 rfl rfl (pc' := 582) rfl ?_
    refine j_cVP (cells1 := cells + 1 + 0 + 0) (slots1 := slots + 6 + 0 + 0) (As := []) (rest := []) cx (c_X3_thrown hXM1) gL_law_X3_thrown rfl rfl rfl 0 rfl (by decide +kernel) ⟨(by show 0 + 1 ≤ _; omega), (by show 8 + (1 + 11) + 0 ≤ _; omega)⟩ hXM1.1 rfl rfl rfl rfl (Nat.le_of_ble_eq_true rfl) dL_law_582 ⟨by omega, by omega⟩ (pc' := 585) rfl rfl rfl (fun v9 al9 sh9 S9 h9 => ?_)
    obtain ⟨e1, e2, e3, e4⟩ := h9
    subst v9 al9 sh9 S9
    refine J.stk (st2 := [.int 0]) (congrArg (fun z => [Value.int z]) q4) ?_
    refine j_iload (j := 1) cx dL_law_585 rfl (pc' := 587) rfl ?_
    refine j_icmp_eq (tgt := 592) cx dL_law_587 (by decide) (pc' := 590) rfl (fun _ => ?_) (fun h => absurd rfl h)
    refine j_iload (j := 1) cx dL_law_592 rfl (pc' := 594) rfl ?_
    refine j_if_ne (tgt := 609) cx dL_law_594 (by decide) (pc' := 597) rfl (fun h => absurd rfl h) (fun _ => ?_)
    refine j_aload_n (j := 5) cx dL_law_597 rfl rfl (pc' := 598) rfl ?_
    refine j_iconst (v := 0) cx dL_law_598 (by decide) (pc' := 599) rfl ?_
    refine j_laldX cx (shp_self _ _ _ _) rfl rfl dL_law_599 (pc' := 600) rfl ?_
    refine j_iload (j := 0) cx dL_law_600 rfl (pc' := 602) rfl ?_
    refine j_i2l cx dL_law_602 rfl (pc' := 603) rfl ?_
    refine j_lcmp cx dL_law_603 (pc' := 604) rfl ?_
    refine j_if_eq (tgt := 609) cx dL_law_604 (by decide) (pc' := 607) rfl (fun _ => ?_) (fun h => absurd (lcmp_self _) h)
    refine j_goto (tgt := 1884) cx dL_law_609 (by decide) ?_
    refine J.sub [2, 3, 4, 5, 6, 7] rfl (J.widen (k := cells + 20) (n := slots + 300) (by omega) (by omega) (hk _ _ _ ?_))
    exact ⟨rfl, rfl, rfl, rfl, ⟨_, shp_self _ _ _ _⟩, hD.imp (fun f hf => (shp_ne _ _ (by omega)).trans hf), hXM1, nm, ns, mu, hY.out (by decide), hFr.out (by decide), q5⟩
  · rw [if_neg hk0] at h9
    obtain ⟨e3, e4⟩ := h9
    subst sh9 S9
    have hXM1 := hXM
    refine J.stk (st2 := [.int (kc_free S nm ns mu (xs (4 * t + 1)))]) rfl ?_
    refine j_istore (lv' := [(6, .int (kc_free S nm ns mu (xs (4 * t + 1)))), (0, .ref b), (1, .ref (al 0 0)), (2, .ref (al 40 0)), (3, .ref (al 70 0)), (4, .ref (al 71 0)), (5, .int (nI (4 * t)))]) cx dL_law_567 (by decide) rfl (pc' := 569) rfl ?_
    refine j_aload_n (j := 3) cx dL_law_569 rfl rfl (pc' := 570) rfl ?_
    refine j_aload_n (j := 1) cx dL_law_570 rfl rfl (pc' := 571) rfl ?_
    refine j_iload (j := 6) cx dL_law_571 rfl (pc' := 573) rfl ?_
    refine j_iconst (v := 1) cx dL_law_573 (by decide) (pc' := 574) rfl ?_
    refine j_iadd cx dL_law_574 (pc' := 575) rfl ?_
    refine j_sld (n := 4 * t + 1) cx hX hb0 (nI_add (4 * t) 1) (by omega) dL_law_575 (pc' := 576) rfl ?_
    refine j_cVP (cells1 := cells + 1 + 0) (slots1 := slots + 6 + 0) (As := [.int (xs (4 * t + 1))]) (rest := []) cx (c_X3_free hXM1 hN.1) gL_law_X3_free rfl rfl rfl 1 rfl (by decide +kernel) ⟨(by show 2 + 1 ≤ _; omega), (by show 8 + (4 + 11) + 44 ≤ _; omega)⟩ hXM1.1 rfl rfl rfl rfl (Nat.le_of_ble_eq_true rfl) dL_law_576 ⟨by omega, by omega⟩ (pc' := 579) rfl rfl rfl (fun v9 al9 sh9 S9 h9 => ?_)
    obtain ⟨e1, e2, h9⟩ := h9
    subst al9 sh9
    have hm0 : ¬ km_free S nm ns mu (xs (4 * t + 1)) = 0 := by rw [← hp1]; exact hk0
    rw [if_neg hm0] at h9
    obtain ⟨e5, e6⟩ := h9
    subst v9 S9
    refine J.stk (st2 := [.int 0]) rfl ?_
    refine j_istore (lv' := [(7, .int 0), (6, .int (kc_free S nm ns mu (xs (4 * t + 1)))), (0, .ref b), (1, .ref (al 0 0)), (2, .ref (al 40 0)), (3, .ref (al 70 0)), (4, .ref (al 71 0)), (5, .int (nI (4 * t)))]) cx dL_law_579 (by decide) rfl (pc' := 581) rfl ?_
    refine j_aload_n (j := 4) cx dL_law_581 rfl rfl (pc' := 582) rfl ?_
    refine j_cVP (cells1 := cells + 1 + 0 + 0) (slots1 := slots + 6 + 0 + 0) (As := []) (rest := []) cx (c_X3_thrown hXM1) gL_law_X3_thrown rfl rfl rfl 0 rfl (by decide +kernel) ⟨(by show 0 + 1 ≤ _; omega), (by show 8 + (1 + 11) + 0 ≤ _; omega)⟩ hXM1.1 rfl rfl rfl rfl (Nat.le_of_ble_eq_true rfl) dL_law_582 ⟨by omega, by omega⟩ (pc' := 585) rfl rfl rfl (fun v9 al9 sh9 S9 h9 => ?_)
    obtain ⟨e1, e2, e3, e4⟩ := h9
    subst v9 al9 sh9 S9
    refine J.stk (st2 := [.int (kc_free S nm ns mu (xs (4 * t + 1)))]) (congrArg (fun z => [Value.int z]) ((sup_self _ _ _ _ _).trans hp1.symm)) ?_
    refine j_iload (j := 1) cx dL_law_585 rfl (pc' := 587) rfl ?_
    refine j_icmp_eq (tgt := 592) cx dL_law_587 (by decide) (pc' := 590) rfl (fun _ => ?_) (fun h => absurd rfl h)
    refine j_iload (j := 1) cx dL_law_592 rfl (pc' := 594) rfl ?_
    refine j_if_ne (tgt := 609) cx dL_law_594 (by decide) (pc' := 597) rfl (fun _ => ?_) (fun h => absurd h hk0)
    refine j_goto (tgt := 1884) cx dL_law_609 (by decide) ?_
    refine J.sub [2, 3, 4, 5, 6, 7] rfl (J.widen (k := cells + 20) (n := slots + 300) (by omega) (by omega) (hk _ _ _ ?_))
    exact ⟨rfl, rfl, rfl, rfl, ⟨fo, hO⟩, hD, hXM, nm, ns, mu, hY, hFr, Eq.mp (congrArg (fun z => IN (sup S 40 0 0 z) nm ns mu (K + 5000)) hp1) (hp2 hk0)⟩
set_option maxHeartbeats 4000000 in
set_option maxRecDepth 100000 in
theorem l_assign {p : Program} {l : Launch} {e : Env} {R : Room} {s : State} {m : MethodId} {args : Array Value} {below : List Frame} {meth : Method} {c : Code} {cells slots : Nat} {Q : State → Prop} {Z : yL} {al : yAl} {sh : ySh} {S : yS} {b L t K x0 m0 o0 d0 : Nat} {xs : Nat → Int32} (hl0 : l.stackTraces = false) (cx : Cx p s m args c code 9 RL wsL_law Z) (hX : va_X b L xs s s.heap) (hb0 : b < s.heap.size ∧ ¬ Z.2.2.1 ≤ b) (hR : 20 ≤ R.frames ∧ 10000 ≤ R.locals ∧ cells + 20 ≤ R.cells ∧ slots + 300 ≤ R.slots) (ht : 4 * t + 4 ≤ L ∧ L ≤ 2048) (hW : WI Z x0 m0 o0 d0 K al sh S) (hp : ∀ nm ns mu, IN S nm ns mu K → P_assign S nm ns mu K (xs (4 * t + 1)) (xs (4 * t + 2))) (hk : ∀ al9 sh9 S9, WI Z x0 m0 o0 d0 (K + 5000) al9 sh9 S9 → J p l e R s m args below meth c 9 Z (cells + 20) (slots + 300) Q al9 sh9 S9 1884 [(0, .ref b), (1, .ref x0), (2, .ref m0), (3, .ref o0), (4, .ref d0), (5, .int (nI (4 * t)))] []) : J p l e R s m args below meth c 9 Z cells slots Q al sh S 612 [(0, .ref b), (1, .ref x0), (2, .ref m0), (3, .ref o0), (4, .ref d0), (5, .int (nI (4 * t)))] [] := by
  obtain ⟨rfl, rfl, rfl, rfl, ⟨fo, hO⟩, hD, hXM, nm, ns, mu, hY, hFr, hN⟩ := hW
  obtain ⟨hp1, hp2, hp3⟩ := hp nm ns mu hN
  refine j_aload_n (j := 1) cx dL_law_612 rfl rfl (pc' := 613) rfl ?_
  refine j_aload_n (j := 0) cx dL_law_613 rfl rfl (pc' := 614) rfl ?_
  refine j_iload (j := 5) cx dL_law_614 rfl (pc' := 616) rfl ?_
  refine j_iconst (v := 1) cx dL_law_616 (by decide) (pc' := 617) rfl ?_
  refine j_iadd cx dL_law_617 (pc' := 618) rfl ?_
  refine j_sld (n := 4 * t + 1) cx hX hb0 (nI_add (4 * t) 1) (by omega) dL_law_618 (pc' := 619) rfl ?_
  refine j_aload_n (j := 0) cx dL_law_619 rfl rfl (pc' := 620) rfl ?_
  refine j_iload (j := 5) cx dL_law_620 rfl (pc' := 622) rfl ?_
  refine j_iconst (v := 2) cx dL_law_622 (by decide) (pc' := 623) rfl ?_
  refine j_iadd cx dL_law_623 (pc' := 624) rfl ?_
  refine j_sld (n := 4 * t + 2) cx hX hb0 (nI_add (4 * t) 2) (by omega) dL_law_624 (pc' := 625) rfl ?_
  refine j_aload_n (j := 3) cx dL_law_625 rfl rfl (pc' := 626) rfl ?_
  refine j_cSW (cells1 := cells + 2) (slots1 := slots + 12) (As := [.ref (al 0 0), .int (xs (4 * t + 1)), .int (xs (4 * t + 2)), .ref (al 70 0)]) (rest := []) cx (c_L_assign hl0 hY hO) gL_law_L_assign rfl rfl rfl 4 rfl (by decide +kernel) ⟨(by show 8 + 1 ≤ _; omega), (by show 8 + (5 + 11) + 133 ≤ _; omega)⟩ rfl (Nat.le_of_ble_eq_true rfl) dL_law_626 ⟨by omega, by omega⟩ (pc' := 629) rfl rfl rfl (fun v9 al9 sh9 S9 h9 => ?_)
  obtain ⟨e1, e2, h9⟩ := h9
  subst v9 al9
  by_cases hk0 : kc_assign S nm ns mu (xs (4 * t + 1)) (xs (4 * t + 2)) = 0
  · rw [if_pos hk0] at h9
    obtain ⟨e3, e4⟩ := h9
    subst sh9 S9
    obtain ⟨q1, q2, q3, q4, q5⟩ := hp3 hk0
    refine J.stk (st2 := [.int 0]) (congrArg (fun z => [Value.int z]) hk0) ?_
    have hXM1 : YM Z (shp sh 70 0 (yLo Z (vp_updL fo 0 (rc_assign S nm ns mu (xs (4 * t + 1)) (xs (4 * t + 2))).toInt64))) := hXM.out (by decide)
    refine j_istore (lv' := [(6, .int 0), (0, .ref b), (1, .ref (al 0 0)), (2, .ref (al 40 0)), (3, .ref (al 70 0)), (4, .ref (al 71 0)), (5, .int (nI (4 * t)))]) cx dL_law_629 (by decide) rfl (pc' := 631) rfl ?_
    refine j_aload_n (j := 3) cx dL_law_631 rfl rfl (pc' := 632) rfl ?_
    refine j_aload_n (j := 1) cx dL_law_632 rfl rfl (pc' := 633) rfl ?_
    refine j_iload (j := 6) cx dL_law_633 rfl (pc' := 635) rfl ?_
    refine j_iconst (v := 1) cx dL_law_635 (by decide) (pc' := 636) rfl ?_
    refine j_iadd cx dL_law_636 (pc' := 637) rfl ?_
    refine j_sld (n := 4 * t + 1) cx hX hb0 (nI_add (4 * t) 1) (by omega) dL_law_637 (pc' := 638) rfl ?_
    refine j_aload_n (j := 1) cx dL_law_638 rfl rfl (pc' := 639) rfl ?_
    refine j_iload (j := 6) cx dL_law_639 rfl (pc' := 641) rfl ?_
    refine j_iconst (v := 2) cx dL_law_641 (by decide) (pc' := 642) rfl ?_
    refine j_iadd cx dL_law_642 (pc' := 643) rfl ?_
    refine j_sld (n := 4 * t + 2) cx hX hb0 (nI_add (4 * t) 2) (by omega) dL_law_643 (pc' := 644) rfl ?_
    refine j_cVP (cells1 := cells + 2 + 0) (slots1 := slots + 12 + 0) (As := [.int (xs (4 * t + 1)), .int (xs (4 * t + 2))]) (rest := []) cx (c_X3_assign hXM1 q1) gL_law_X3_assign rfl rfl rfl 2 rfl (by decide +kernel) ⟨(by show 2 + 1 ≤ _; omega), (by show 8 + (4 + 11) + 42 ≤ _; omega)⟩ hXM1.1 rfl rfl rfl rfl (Nat.le_of_ble_eq_true rfl) dL_law_644 ⟨by omega, by omega⟩ (pc' := 647) rfl rfl rfl (fun v9 al9 sh9 S9 h9 => ?_)
    obtain ⟨e1, e2, h9⟩ := h9
    subst al9 sh9
    rw [if_pos q2] at h9
    obtain ⟨e5, e6⟩ := h9
    subst v9 S9
    refine J.stk (st2 := [.int (rc_assign S nm ns mu (xs (4 * t + 1)) (xs (4 * t + 2)))]) (congrArg (fun z => [Value.int z]) q3) ?_
    refine j_istore (lv' := [(7, .int (rc_assign S nm ns mu (xs (4 * t + 1)) (xs (4 * t + 2)))), (6, .int 0), (0, .ref b), (1, .ref (al 0 0)), (2, .ref (al 40 0)), (3, .ref (al 70 0)), (4, .ref (al 71 0)), (5, .int (nI (4 * t)))]) cx dL_law_647 (by decide) rfl (pc' := 649) rfl ?_
    refine j_aload_n (j := 4) cx dL_law_649 rfl rfl (pc' := 650) rfl ?_
    refine j_cVP (cells1 := cells + 2 + 0 + 0) (slots1 := slots + 12 + 0 + 0) (As := []) (rest := []) cx (c_X3_thrown hXM1) gL_law_X3_thrown rfl rfl rfl 0 rfl (by decide +kernel) ⟨(by show 0 + 1 ≤ _; omega), (by show 8 + (1 + 11) + 0 ≤ _; omega)⟩ hXM1.1 rfl rfl rfl rfl (Nat.le_of_ble_eq_true rfl) dL_law_650 ⟨by omega, by omega⟩ (pc' := 653) rfl rfl rfl (fun v9 al9 sh9 S9 h9 => ?_)
    obtain ⟨e1, e2, e3, e4⟩ := h9
    subst v9 al9 sh9 S9
    refine J.stk (st2 := [.int 0]) (congrArg (fun z => [Value.int z]) q4) ?_
    refine j_iload (j := 1) cx dL_law_653 rfl (pc' := 655) rfl ?_
    refine j_icmp_eq (tgt := 660) cx dL_law_655 (by decide) (pc' := 658) rfl (fun _ => ?_) (fun h => absurd rfl h)
    refine j_iload (j := 1) cx dL_law_660 rfl (pc' := 662) rfl ?_
    refine j_if_ne (tgt := 677) cx dL_law_662 (by decide) (pc' := 665) rfl (fun h => absurd rfl h) (fun _ => ?_)
    refine j_aload_n (j := 5) cx dL_law_665 rfl rfl (pc' := 666) rfl ?_
    refine j_iconst (v := 0) cx dL_law_666 (by decide) (pc' := 667) rfl ?_
    refine j_laldX cx (shp_self _ _ _ _) rfl rfl dL_law_667 (pc' := 668) rfl ?_
    refine j_iload (j := 0) cx dL_law_668 rfl (pc' := 670) rfl ?_
    refine j_i2l cx dL_law_670 rfl (pc' := 671) rfl ?_
    refine j_lcmp cx dL_law_671 (pc' := 672) rfl ?_
    refine j_if_eq (tgt := 677) cx dL_law_672 (by decide) (pc' := 675) rfl (fun _ => ?_) (fun h => absurd (lcmp_self _) h)
    refine j_goto (tgt := 1884) cx dL_law_677 (by decide) ?_
    refine J.sub [2, 3, 4, 5, 6, 7] rfl (J.widen (k := cells + 20) (n := slots + 300) (by omega) (by omega) (hk _ _ _ ?_))
    exact ⟨rfl, rfl, rfl, rfl, ⟨_, shp_self _ _ _ _⟩, hD.imp (fun f hf => (shp_ne _ _ (by omega)).trans hf), hXM1, nm, ns, mu, hY.out (by decide), hFr.out (by decide), q5⟩
  · rw [if_neg hk0] at h9
    obtain ⟨e3, e4⟩ := h9
    subst sh9 S9
    have hXM1 := hXM
    refine J.stk (st2 := [.int (kc_assign S nm ns mu (xs (4 * t + 1)) (xs (4 * t + 2)))]) rfl ?_
    refine j_istore (lv' := [(6, .int (kc_assign S nm ns mu (xs (4 * t + 1)) (xs (4 * t + 2)))), (0, .ref b), (1, .ref (al 0 0)), (2, .ref (al 40 0)), (3, .ref (al 70 0)), (4, .ref (al 71 0)), (5, .int (nI (4 * t)))]) cx dL_law_629 (by decide) rfl (pc' := 631) rfl ?_
    refine j_aload_n (j := 3) cx dL_law_631 rfl rfl (pc' := 632) rfl ?_
    refine j_aload_n (j := 1) cx dL_law_632 rfl rfl (pc' := 633) rfl ?_
    refine j_iload (j := 6) cx dL_law_633 rfl (pc' := 635) rfl ?_
    refine j_iconst (v := 1) cx dL_law_635 (by decide) (pc' := 636) rfl ?_
    refine j_iadd cx dL_law_636 (pc' := 637) rfl ?_
    refine j_sld (n := 4 * t + 1) cx hX hb0 (nI_add (4 * t) 1) (by omega) dL_law_637 (pc' := 638) rfl ?_
    refine j_aload_n (j := 1) cx dL_law_638 rfl rfl (pc' := 639) rfl ?_
    refine j_iload (j := 6) cx dL_law_639 rfl (pc' := 641) rfl ?_
    refine j_iconst (v := 2) cx dL_law_641 (by decide) (pc' := 642) rfl ?_
    refine j_iadd cx dL_law_642 (pc' := 643) rfl ?_
    refine j_sld (n := 4 * t + 2) cx hX hb0 (nI_add (4 * t) 2) (by omega) dL_law_643 (pc' := 644) rfl ?_
    refine j_cVP (cells1 := cells + 2 + 0) (slots1 := slots + 12 + 0) (As := [.int (xs (4 * t + 1)), .int (xs (4 * t + 2))]) (rest := []) cx (c_X3_assign hXM1 hN.1) gL_law_X3_assign rfl rfl rfl 2 rfl (by decide +kernel) ⟨(by show 2 + 1 ≤ _; omega), (by show 8 + (4 + 11) + 42 ≤ _; omega)⟩ hXM1.1 rfl rfl rfl rfl (Nat.le_of_ble_eq_true rfl) dL_law_644 ⟨by omega, by omega⟩ (pc' := 647) rfl rfl rfl (fun v9 al9 sh9 S9 h9 => ?_)
    obtain ⟨e1, e2, h9⟩ := h9
    subst al9 sh9
    have hm0 : ¬ km_assign S nm ns mu (xs (4 * t + 1)) (xs (4 * t + 2)) = 0 := by rw [← hp1]; exact hk0
    rw [if_neg hm0] at h9
    obtain ⟨e5, e6⟩ := h9
    subst v9 S9
    refine J.stk (st2 := [.int 0]) rfl ?_
    refine j_istore (lv' := [(7, .int 0), (6, .int (kc_assign S nm ns mu (xs (4 * t + 1)) (xs (4 * t + 2)))), (0, .ref b), (1, .ref (al 0 0)), (2, .ref (al 40 0)), (3, .ref (al 70 0)), (4, .ref (al 71 0)), (5, .int (nI (4 * t)))]) cx dL_law_647 (by decide) rfl (pc' := 649) rfl ?_
    refine j_aload_n (j := 4) cx dL_law_649 rfl rfl (pc' := 650) rfl ?_
    refine j_cVP (cells1 := cells + 2 + 0 + 0) (slots1 := slots + 12 + 0 + 0) (As := []) (rest := []) cx (c_X3_thrown hXM1) gL_law_X3_thrown rfl rfl rfl 0 rfl (by decide +kernel) ⟨(by show 0 + 1 ≤ _; omega), (by show 8 + (1 + 11) + 0 ≤ _; omega)⟩ hXM1.1 rfl rfl rfl rfl (Nat.le_of_ble_eq_true rfl) dL_law_650 ⟨by omega, by omega⟩ (pc' := 653) rfl rfl rfl (fun v9 al9 sh9 S9 h9 => ?_)
    obtain ⟨e1, e2, e3, e4⟩ := h9
    subst v9 al9 sh9 S9
    refine J.stk (st2 := [.int (kc_assign S nm ns mu (xs (4 * t + 1)) (xs (4 * t + 2)))]) (congrArg (fun z => [Value.int z]) ((sup_self _ _ _ _ _).trans hp1.symm)) ?_
    refine j_iload (j := 1) cx dL_law_653 rfl (pc' := 655) rfl ?_
    refine j_icmp_eq (tgt := 660) cx dL_law_655 (by decide) (pc' := 658) rfl (fun _ => ?_) (fun h => absurd rfl h)
    refine j_iload (j := 1) cx dL_law_660 rfl (pc' := 662) rfl ?_
    refine j_if_ne (tgt := 677) cx dL_law_662 (by decide) (pc' := 665) rfl (fun _ => ?_) (fun h => absurd h hk0)
    refine j_goto (tgt := 1884) cx dL_law_677 (by decide) ?_
    refine J.sub [2, 3, 4, 5, 6, 7] rfl (J.widen (k := cells + 20) (n := slots + 300) (by omega) (by omega) (hk _ _ _ ?_))
    exact ⟨rfl, rfl, rfl, rfl, ⟨fo, hO⟩, hD, hXM, nm, ns, mu, hY, hFr, Eq.mp (congrArg (fun z => IN (sup S 40 0 0 z) nm ns mu (K + 5000)) hp1) (hp2 hk0)⟩
set_option maxHeartbeats 4000000 in
set_option maxRecDepth 100000 in
theorem l_buy {p : Program} {l : Launch} {e : Env} {R : Room} {s : State} {m : MethodId} {args : Array Value} {below : List Frame} {meth : Method} {c : Code} {cells slots : Nat} {Q : State → Prop} {Z : yL} {al : yAl} {sh : ySh} {S : yS} {b L t K x0 m0 o0 d0 : Nat} {xs : Nat → Int32} (hl0 : l.stackTraces = false) (cx : Cx p s m args c code 9 RL wsL_law Z) (hX : va_X b L xs s s.heap) (hb0 : b < s.heap.size ∧ ¬ Z.2.2.1 ≤ b) (hR : 20 ≤ R.frames ∧ 10000 ≤ R.locals ∧ cells + 20 ≤ R.cells ∧ slots + 300 ≤ R.slots) (ht : 4 * t + 4 ≤ L ∧ L ≤ 2048) (hW : WI Z x0 m0 o0 d0 K al sh S) (hp : ∀ nm ns mu, IN S nm ns mu K → P_buy S nm ns mu K (xs (4 * t + 1)) (xs (4 * t + 2))) (hk : ∀ al9 sh9 S9, WI Z x0 m0 o0 d0 (K + 5000) al9 sh9 S9 → J p l e R s m args below meth c 9 Z (cells + 20) (slots + 300) Q al9 sh9 S9 1884 [(0, .ref b), (1, .ref x0), (2, .ref m0), (3, .ref o0), (4, .ref d0), (5, .int (nI (4 * t)))] []) : J p l e R s m args below meth c 9 Z cells slots Q al sh S 680 [(0, .ref b), (1, .ref x0), (2, .ref m0), (3, .ref o0), (4, .ref d0), (5, .int (nI (4 * t)))] [] := by
  obtain ⟨rfl, rfl, rfl, rfl, ⟨fo, hO⟩, hD, hXM, nm, ns, mu, hY, hFr, hN⟩ := hW
  obtain ⟨hp1, hp2, hp3⟩ := hp nm ns mu hN
  refine j_aload_n (j := 1) cx dL_law_680 rfl rfl (pc' := 681) rfl ?_
  refine j_aload_n (j := 0) cx dL_law_681 rfl rfl (pc' := 682) rfl ?_
  refine j_iload (j := 5) cx dL_law_682 rfl (pc' := 684) rfl ?_
  refine j_iconst (v := 1) cx dL_law_684 (by decide) (pc' := 685) rfl ?_
  refine j_iadd cx dL_law_685 (pc' := 686) rfl ?_
  refine j_sld (n := 4 * t + 1) cx hX hb0 (nI_add (4 * t) 1) (by omega) dL_law_686 (pc' := 687) rfl ?_
  refine j_aload_n (j := 0) cx dL_law_687 rfl rfl (pc' := 688) rfl ?_
  refine j_iload (j := 5) cx dL_law_688 rfl (pc' := 690) rfl ?_
  refine j_iconst (v := 2) cx dL_law_690 (by decide) (pc' := 691) rfl ?_
  refine j_iadd cx dL_law_691 (pc' := 692) rfl ?_
  refine j_sld (n := 4 * t + 2) cx hX hb0 (nI_add (4 * t) 2) (by omega) dL_law_692 (pc' := 693) rfl ?_
  refine j_aload_n (j := 3) cx dL_law_693 rfl rfl (pc' := 694) rfl ?_
  refine j_cSW (cells1 := cells + 3) (slots1 := slots + 18) (As := [.ref (al 0 0), .int (xs (4 * t + 1)), .int (xs (4 * t + 2)), .ref (al 70 0)]) (rest := []) cx (c_L_buy hl0 hY hO) gL_law_L_buy rfl rfl rfl 4 rfl (by decide +kernel) ⟨(by show 8 + 1 ≤ _; omega), (by show 8 + (5 + 11) + 132 ≤ _; omega)⟩ rfl (Nat.le_of_ble_eq_true rfl) dL_law_694 ⟨by omega, by omega⟩ (pc' := 697) rfl rfl rfl (fun v9 al9 sh9 S9 h9 => ?_)
  obtain ⟨e1, e2, h9⟩ := h9
  subst v9 al9
  by_cases hk0 : kc_buy S nm ns mu (xs (4 * t + 1)) (xs (4 * t + 2)) = 0
  · rw [if_pos hk0] at h9
    obtain ⟨e3, e4⟩ := h9
    subst sh9 S9
    obtain ⟨q1, q2, q3, q4, q5⟩ := hp3 hk0
    refine J.stk (st2 := [.int 0]) (congrArg (fun z => [Value.int z]) hk0) ?_
    have hXM1 : YM Z (shp sh 70 0 (yLo Z (vp_updL fo 0 (rc_buy S nm ns mu (xs (4 * t + 1)) (xs (4 * t + 2))).toInt64))) := hXM.out (by decide)
    refine j_istore (lv' := [(6, .int 0), (0, .ref b), (1, .ref (al 0 0)), (2, .ref (al 40 0)), (3, .ref (al 70 0)), (4, .ref (al 71 0)), (5, .int (nI (4 * t)))]) cx dL_law_697 (by decide) rfl (pc' := 699) rfl ?_
    refine j_aload_n (j := 3) cx dL_law_699 rfl rfl (pc' := 700) rfl ?_
    refine j_aload_n (j := 1) cx dL_law_700 rfl rfl (pc' := 701) rfl ?_
    refine j_iload (j := 6) cx dL_law_701 rfl (pc' := 703) rfl ?_
    refine j_iconst (v := 1) cx dL_law_703 (by decide) (pc' := 704) rfl ?_
    refine j_iadd cx dL_law_704 (pc' := 705) rfl ?_
    refine j_sld (n := 4 * t + 1) cx hX hb0 (nI_add (4 * t) 1) (by omega) dL_law_705 (pc' := 706) rfl ?_
    refine j_aload_n (j := 1) cx dL_law_706 rfl rfl (pc' := 707) rfl ?_
    refine j_iload (j := 6) cx dL_law_707 rfl (pc' := 709) rfl ?_
    refine j_iconst (v := 2) cx dL_law_709 (by decide) (pc' := 710) rfl ?_
    refine j_iadd cx dL_law_710 (pc' := 711) rfl ?_
    refine j_sld (n := 4 * t + 2) cx hX hb0 (nI_add (4 * t) 2) (by omega) dL_law_711 (pc' := 712) rfl ?_
    refine j_cVP (cells1 := cells + 3 + 0) (slots1 := slots + 18 + 0) (As := [.int (xs (4 * t + 1)), .int (xs (4 * t + 2))]) (rest := []) cx (c_X3_buy hXM1 q1) gL_law_X3_buy rfl rfl rfl 2 rfl (by decide +kernel) ⟨(by show 2 + 1 ≤ _; omega), (by show 8 + (3 + 11) + 42 ≤ _; omega)⟩ hXM1.1 rfl rfl rfl rfl (Nat.le_of_ble_eq_true rfl) dL_law_712 ⟨by omega, by omega⟩ (pc' := 715) rfl rfl rfl (fun v9 al9 sh9 S9 h9 => ?_)
    obtain ⟨e1, e2, h9⟩ := h9
    subst al9 sh9
    rw [if_pos q2] at h9
    obtain ⟨e5, e6⟩ := h9
    subst v9 S9
    refine J.stk (st2 := [.int (rc_buy S nm ns mu (xs (4 * t + 1)) (xs (4 * t + 2)))]) (congrArg (fun z => [Value.int z]) q3) ?_
    refine j_istore (lv' := [(7, .int (rc_buy S nm ns mu (xs (4 * t + 1)) (xs (4 * t + 2)))), (6, .int 0), (0, .ref b), (1, .ref (al 0 0)), (2, .ref (al 40 0)), (3, .ref (al 70 0)), (4, .ref (al 71 0)), (5, .int (nI (4 * t)))]) cx dL_law_715 (by decide) rfl (pc' := 717) rfl ?_
    refine j_aload_n (j := 4) cx dL_law_717 rfl rfl (pc' := 718) rfl ?_
    refine j_cVP (cells1 := cells + 3 + 0 + 0) (slots1 := slots + 18 + 0 + 0) (As := []) (rest := []) cx (c_X3_thrown hXM1) gL_law_X3_thrown rfl rfl rfl 0 rfl (by decide +kernel) ⟨(by show 0 + 1 ≤ _; omega), (by show 8 + (1 + 11) + 0 ≤ _; omega)⟩ hXM1.1 rfl rfl rfl rfl (Nat.le_of_ble_eq_true rfl) dL_law_718 ⟨by omega, by omega⟩ (pc' := 721) rfl rfl rfl (fun v9 al9 sh9 S9 h9 => ?_)
    obtain ⟨e1, e2, e3, e4⟩ := h9
    subst v9 al9 sh9 S9
    refine J.stk (st2 := [.int 0]) (congrArg (fun z => [Value.int z]) q4) ?_
    refine j_iload (j := 1) cx dL_law_721 rfl (pc' := 723) rfl ?_
    refine j_icmp_eq (tgt := 728) cx dL_law_723 (by decide) (pc' := 726) rfl (fun _ => ?_) (fun h => absurd rfl h)
    refine j_iload (j := 1) cx dL_law_728 rfl (pc' := 730) rfl ?_
    refine j_if_ne (tgt := 745) cx dL_law_730 (by decide) (pc' := 733) rfl (fun h => absurd rfl h) (fun _ => ?_)
    refine j_aload_n (j := 5) cx dL_law_733 rfl rfl (pc' := 734) rfl ?_
    refine j_iconst (v := 0) cx dL_law_734 (by decide) (pc' := 735) rfl ?_
    refine j_laldX cx (shp_self _ _ _ _) rfl rfl dL_law_735 (pc' := 736) rfl ?_
    refine j_iload (j := 0) cx dL_law_736 rfl (pc' := 738) rfl ?_
    refine j_i2l cx dL_law_738 rfl (pc' := 739) rfl ?_
    refine j_lcmp cx dL_law_739 (pc' := 740) rfl ?_
    refine j_if_eq (tgt := 745) cx dL_law_740 (by decide) (pc' := 743) rfl (fun _ => ?_) (fun h => absurd (lcmp_self _) h)
    refine j_goto (tgt := 1884) cx dL_law_745 (by decide) ?_
    refine J.sub [2, 3, 4, 5, 6, 7] rfl (J.widen (k := cells + 20) (n := slots + 300) (by omega) (by omega) (hk _ _ _ ?_))
    exact ⟨rfl, rfl, rfl, rfl, ⟨_, shp_self _ _ _ _⟩, hD.imp (fun f hf => (shp_ne _ _ (by omega)).trans hf), hXM1, nm, ns, mu, hY.out (by decide), hFr.out (by decide), q5⟩
  · rw [if_neg hk0] at h9
    obtain ⟨e3, e4⟩ := h9
    subst sh9 S9
    have hXM1 := hXM
    refine J.stk (st2 := [.int (kc_buy S nm ns mu (xs (4 * t + 1)) (xs (4 * t + 2)))]) rfl ?_
    refine j_istore (lv' := [(6, .int (kc_buy S nm ns mu (xs (4 * t + 1)) (xs (4 * t + 2)))), (0, .ref b), (1, .ref (al 0 0)), (2, .ref (al 40 0)), (3, .ref (al 70 0)), (4, .ref (al 71 0)), (5, .int (nI (4 * t)))]) cx dL_law_697 (by decide) rfl (pc' := 699) rfl ?_
    refine j_aload_n (j := 3) cx dL_law_699 rfl rfl (pc' := 700) rfl ?_
    refine j_aload_n (j := 1) cx dL_law_700 rfl rfl (pc' := 701) rfl ?_
    refine j_iload (j := 6) cx dL_law_701 rfl (pc' := 703) rfl ?_
    refine j_iconst (v := 1) cx dL_law_703 (by decide) (pc' := 704) rfl ?_
    refine j_iadd cx dL_law_704 (pc' := 705) rfl ?_
    refine j_sld (n := 4 * t + 1) cx hX hb0 (nI_add (4 * t) 1) (by omega) dL_law_705 (pc' := 706) rfl ?_
    refine j_aload_n (j := 1) cx dL_law_706 rfl rfl (pc' := 707) rfl ?_
    refine j_iload (j := 6) cx dL_law_707 rfl (pc' := 709) rfl ?_
    refine j_iconst (v := 2) cx dL_law_709 (by decide) (pc' := 710) rfl ?_
    refine j_iadd cx dL_law_710 (pc' := 711) rfl ?_
    refine j_sld (n := 4 * t + 2) cx hX hb0 (nI_add (4 * t) 2) (by omega) dL_law_711 (pc' := 712) rfl ?_
    refine j_cVP (cells1 := cells + 3 + 0) (slots1 := slots + 18 + 0) (As := [.int (xs (4 * t + 1)), .int (xs (4 * t + 2))]) (rest := []) cx (c_X3_buy hXM1 hN.1) gL_law_X3_buy rfl rfl rfl 2 rfl (by decide +kernel) ⟨(by show 2 + 1 ≤ _; omega), (by show 8 + (3 + 11) + 42 ≤ _; omega)⟩ hXM1.1 rfl rfl rfl rfl (Nat.le_of_ble_eq_true rfl) dL_law_712 ⟨by omega, by omega⟩ (pc' := 715) rfl rfl rfl (fun v9 al9 sh9 S9 h9 => ?_)
    obtain ⟨e1, e2, h9⟩ := h9
    subst al9 sh9
    have hm0 : ¬ km_buy S nm ns mu (xs (4 * t + 1)) (xs (4 * t + 2)) = 0 := by rw [← hp1]; exact hk0
    rw [if_neg hm0] at h9
    obtain ⟨e5, e6⟩ := h9
    subst v9 S9
    refine J.stk (st2 := [.int 0]) rfl ?_
    refine j_istore (lv' := [(7, .int 0), (6, .int (kc_buy S nm ns mu (xs (4 * t + 1)) (xs (4 * t + 2)))), (0, .ref b), (1, .ref (al 0 0)), (2, .ref (al 40 0)), (3, .ref (al 70 0)), (4, .ref (al 71 0)), (5, .int (nI (4 * t)))]) cx dL_law_715 (by decide) rfl (pc' := 717) rfl ?_
    refine j_aload_n (j := 4) cx dL_law_717 rfl rfl (pc' := 718) rfl ?_
    refine j_cVP (cells1 := cells + 3 + 0 + 0) (slots1 := slots + 18 + 0 + 0) (As := []) (rest := []) cx (c_X3_thrown hXM1) gL_law_X3_thrown rfl rfl rfl 0 rfl (by decide +kernel) ⟨(by show 0 + 1 ≤ _; omega), (by show 8 + (1 + 11) + 0 ≤ _; omega)⟩ hXM1.1 rfl rfl rfl rfl (Nat.le_of_ble_eq_true rfl) dL_law_718 ⟨by omega, by omega⟩ (pc' := 721) rfl rfl rfl (fun v9 al9 sh9 S9 h9 => ?_)
    obtain ⟨e1, e2, e3, e4⟩ := h9
    subst v9 al9 sh9 S9
    refine J.stk (st2 := [.int (kc_buy S nm ns mu (xs (4 * t + 1)) (xs (4 * t + 2)))]) (congrArg (fun z => [Value.int z]) ((sup_self _ _ _ _ _).trans hp1.symm)) ?_
    refine j_iload (j := 1) cx dL_law_721 rfl (pc' := 723) rfl ?_
    refine j_icmp_eq (tgt := 728) cx dL_law_723 (by decide) (pc' := 726) rfl (fun _ => ?_) (fun h => absurd rfl h)
    refine j_iload (j := 1) cx dL_law_728 rfl (pc' := 730) rfl ?_
    refine j_if_ne (tgt := 745) cx dL_law_730 (by decide) (pc' := 733) rfl (fun _ => ?_) (fun h => absurd h hk0)
    refine j_goto (tgt := 1884) cx dL_law_745 (by decide) ?_
    refine J.sub [2, 3, 4, 5, 6, 7] rfl (J.widen (k := cells + 20) (n := slots + 300) (by omega) (by omega) (hk _ _ _ ?_))
    exact ⟨rfl, rfl, rfl, rfl, ⟨fo, hO⟩, hD, hXM, nm, ns, mu, hY, hFr, Eq.mp (congrArg (fun z => IN (sup S 40 0 0 z) nm ns mu (K + 5000)) hp1) (hp2 hk0)⟩
set_option maxHeartbeats 4000000 in
set_option maxRecDepth 100000 in
theorem l_lend {p : Program} {l : Launch} {e : Env} {R : Room} {s : State} {m : MethodId} {args : Array Value} {below : List Frame} {meth : Method} {c : Code} {cells slots : Nat} {Q : State → Prop} {Z : yL} {al : yAl} {sh : ySh} {S : yS} {b L t K x0 m0 o0 d0 : Nat} {xs : Nat → Int32} (hl0 : l.stackTraces = false) (cx : Cx p s m args c code 9 RL wsL_law Z) (hX : va_X b L xs s s.heap) (hb0 : b < s.heap.size ∧ ¬ Z.2.2.1 ≤ b) (hR : 20 ≤ R.frames ∧ 10000 ≤ R.locals ∧ cells + 20 ≤ R.cells ∧ slots + 300 ≤ R.slots) (ht : 4 * t + 4 ≤ L ∧ L ≤ 2048) (hW : WI Z x0 m0 o0 d0 K al sh S) (hp : ∀ nm ns mu, IN S nm ns mu K → P_lend S nm ns mu K (xs (4 * t + 1)) (xs (4 * t + 2)) (xs (4 * t + 3))) (hk : ∀ al9 sh9 S9, WI Z x0 m0 o0 d0 (K + 5000) al9 sh9 S9 → J p l e R s m args below meth c 9 Z (cells + 20) (slots + 300) Q al9 sh9 S9 1884 [(0, .ref b), (1, .ref x0), (2, .ref m0), (3, .ref o0), (4, .ref d0), (5, .int (nI (4 * t)))] []) : J p l e R s m args below meth c 9 Z cells slots Q al sh S 748 [(0, .ref b), (1, .ref x0), (2, .ref m0), (3, .ref o0), (4, .ref d0), (5, .int (nI (4 * t)))] [] := by
  obtain ⟨rfl, rfl, rfl, rfl, ⟨fo, hO⟩, hD, hXM, nm, ns, mu, hY, hFr, hN⟩ := hW
  obtain ⟨hp1, hp2, hp3⟩ := hp nm ns mu hN
  refine j_aload_n (j := 1) cx dL_law_748 rfl rfl (pc' := 749) rfl ?_
  refine j_aload_n (j := 0) cx dL_law_749 rfl rfl (pc' := 750) rfl ?_
  refine j_iload (j := 5) cx dL_law_750 rfl (pc' := 752) rfl ?_
  refine j_iconst (v := 1) cx dL_law_752 (by decide) (pc' := 753) rfl ?_
  refine j_iadd cx dL_law_753 (pc' := 754) rfl ?_
  refine j_sld (n := 4 * t + 1) cx hX hb0 (nI_add (4 * t) 1) (by omega) dL_law_754 (pc' := 755) rfl ?_
  refine j_aload_n (j := 0) cx dL_law_755 rfl rfl (pc' := 756) rfl ?_
  refine j_iload (j := 5) cx dL_law_756 rfl (pc' := 758) rfl ?_
  refine j_iconst (v := 2) cx dL_law_758 (by decide) (pc' := 759) rfl ?_
  refine j_iadd cx dL_law_759 (pc' := 760) rfl ?_
  refine j_sld (n := 4 * t + 2) cx hX hb0 (nI_add (4 * t) 2) (by omega) dL_law_760 (pc' := 761) rfl ?_
  refine j_aload_n (j := 0) cx dL_law_761 rfl rfl (pc' := 762) rfl ?_
  refine j_iload (j := 5) cx dL_law_762 rfl (pc' := 764) rfl ?_
  refine j_iconst (v := 3) cx dL_law_764 (by decide) (pc' := 765) rfl ?_
  refine j_iadd cx dL_law_765 (pc' := 766) rfl ?_
  refine j_sld (n := 4 * t + 3) cx hX hb0 (nI_add (4 * t) 3) (by omega) dL_law_766 (pc' := 767) rfl ?_
  refine j_aload_n (j := 3) cx dL_law_767 rfl rfl (pc' := 768) rfl ?_
  refine j_cSW (cells1 := cells + 5) (slots1 := slots + 30) (As := [.ref (al 0 0), .int (xs (4 * t + 1)), .int (xs (4 * t + 2)), .int (xs (4 * t + 3)), .ref (al 70 0)]) (rest := []) cx (c_L_lend hl0 hY hO) gL_law_L_lend rfl rfl rfl 5 rfl (by decide +kernel) ⟨(by show 9 + 1 ≤ _; omega), (by show 8 + (6 + 11) + 154 ≤ _; omega)⟩ rfl (Nat.le_of_ble_eq_true rfl) dL_law_768 ⟨by omega, by omega⟩ (pc' := 771) rfl rfl rfl (fun v9 al9 sh9 S9 h9 => ?_)
  obtain ⟨e1, e2, h9⟩ := h9
  subst v9 al9
  by_cases hk0 : kc_lend S nm ns mu (xs (4 * t + 1)) (xs (4 * t + 2)) (xs (4 * t + 3)) = 0
  · rw [if_pos hk0] at h9
    obtain ⟨e3, e4⟩ := h9
    subst sh9 S9
    obtain ⟨q1, q2, q3, q4, q5⟩ := hp3 hk0
    refine J.stk (st2 := [.int 0]) (congrArg (fun z => [Value.int z]) hk0) ?_
    have hXM1 : YM Z (shp sh 70 0 (yLo Z (vp_updL fo 0 (rc_lend S nm ns mu (xs (4 * t + 1)) (xs (4 * t + 2)) (xs (4 * t + 3))).toInt64))) := hXM.out (by decide)
    refine j_istore (lv' := [(6, .int 0), (0, .ref b), (1, .ref (al 0 0)), (2, .ref (al 40 0)), (3, .ref (al 70 0)), (4, .ref (al 71 0)), (5, .int (nI (4 * t)))]) cx dL_law_771 (by decide) rfl (pc' := 773) rfl ?_
    refine j_aload_n (j := 3) cx dL_law_773 rfl rfl (pc' := 774) rfl ?_
    refine j_aload_n (j := 1) cx dL_law_774 rfl rfl (pc' := 775) rfl ?_
    refine j_iload (j := 6) cx dL_law_775 rfl (pc' := 777) rfl ?_
    refine j_iconst (v := 1) cx dL_law_777 (by decide) (pc' := 778) rfl ?_
    refine j_iadd cx dL_law_778 (pc' := 779) rfl ?_
    refine j_sld (n := 4 * t + 1) cx hX hb0 (nI_add (4 * t) 1) (by omega) dL_law_779 (pc' := 780) rfl ?_
    refine j_aload_n (j := 1) cx dL_law_780 rfl rfl (pc' := 781) rfl ?_
    refine j_iload (j := 6) cx dL_law_781 rfl (pc' := 783) rfl ?_
    refine j_iconst (v := 2) cx dL_law_783 (by decide) (pc' := 784) rfl ?_
    refine j_iadd cx dL_law_784 (pc' := 785) rfl ?_
    refine j_sld (n := 4 * t + 2) cx hX hb0 (nI_add (4 * t) 2) (by omega) dL_law_785 (pc' := 786) rfl ?_
    refine j_aload_n (j := 1) cx dL_law_786 rfl rfl (pc' := 787) rfl ?_
    refine j_iload (j := 6) cx dL_law_787 rfl (pc' := 789) rfl ?_
    refine j_iconst (v := 3) cx dL_law_789 (by decide) (pc' := 790) rfl ?_
    refine j_iadd cx dL_law_790 (pc' := 791) rfl ?_
    refine j_sld (n := 4 * t + 3) cx hX hb0 (nI_add (4 * t) 3) (by omega) dL_law_791 (pc' := 792) rfl ?_
    refine j_cVP (cells1 := cells + 5 + 0) (slots1 := slots + 30 + 0) (As := [.int (xs (4 * t + 1)), .int (xs (4 * t + 2)), .int (xs (4 * t + 3))]) (rest := []) cx (c_X3_lend hXM1 q1) gL_law_X3_lend rfl rfl rfl 3 rfl (by decide +kernel) ⟨(by show 3 + 1 ≤ _; omega), (by show 8 + (4 + 11) + 64 ≤ _; omega)⟩ hXM1.1 rfl rfl rfl rfl (Nat.le_of_ble_eq_true rfl) dL_law_792 ⟨by omega, by omega⟩ (pc' := 795) rfl rfl rfl (fun v9 al9 sh9 S9 h9 => ?_)
    obtain ⟨e1, e2, h9⟩ := h9
    subst al9 sh9
    rw [if_pos q2] at h9
    obtain ⟨e5, e6⟩ := h9
    subst v9 S9
    refine J.stk (st2 := [.int (rc_lend S nm ns mu (xs (4 * t + 1)) (xs (4 * t + 2)) (xs (4 * t + 3)))]) (congrArg (fun z => [Value.int z]) q3) ?_
    refine j_istore (lv' := [(7, .int (rc_lend S nm ns mu (xs (4 * t + 1)) (xs (4 * t + 2)) (xs (4 * t + 3)))), (6, .int 0), (0, .ref b), (1, .ref (al 0 0)), (2, .ref (al 40 0)), (3, .ref (al 70 0)), (4, .ref (al 71 0)), (5, .int (nI (4 * t)))]) cx dL_law_795 (by decide) rfl (pc' := 797) rfl ?_
    refine j_aload_n (j := 4) cx dL_law_797 rfl rfl (pc' := 798) rfl ?_
    refine j_cVP (cells1 := cells + 5 + 0 + 0) (slots1 := slots + 30 + 0 + 0) (As := []) (rest := []) cx (c_X3_thrown hXM1) gL_law_X3_thrown rfl rfl rfl 0 rfl (by decide +kernel) ⟨(by show 0 + 1 ≤ _; omega), (by show 8 + (1 + 11) + 0 ≤ _; omega)⟩ hXM1.1 rfl rfl rfl rfl (Nat.le_of_ble_eq_true rfl) dL_law_798 ⟨by omega, by omega⟩ (pc' := 801) rfl rfl rfl (fun v9 al9 sh9 S9 h9 => ?_)
    obtain ⟨e1, e2, e3, e4⟩ := h9
    subst v9 al9 sh9 S9
    refine J.stk (st2 := [.int 0]) (congrArg (fun z => [Value.int z]) q4) ?_
    refine j_iload (j := 1) cx dL_law_801 rfl (pc' := 803) rfl ?_
    refine j_icmp_eq (tgt := 808) cx dL_law_803 (by decide) (pc' := 806) rfl (fun _ => ?_) (fun h => absurd rfl h)
    refine j_iload (j := 1) cx dL_law_808 rfl (pc' := 810) rfl ?_
    refine j_if_ne (tgt := 825) cx dL_law_810 (by decide) (pc' := 813) rfl (fun h => absurd rfl h) (fun _ => ?_)
    refine j_aload_n (j := 5) cx dL_law_813 rfl rfl (pc' := 814) rfl ?_
    refine j_iconst (v := 0) cx dL_law_814 (by decide) (pc' := 815) rfl ?_
    refine j_laldX cx (shp_self _ _ _ _) rfl rfl dL_law_815 (pc' := 816) rfl ?_
    refine j_iload (j := 0) cx dL_law_816 rfl (pc' := 818) rfl ?_
    refine j_i2l cx dL_law_818 rfl (pc' := 819) rfl ?_
    refine j_lcmp cx dL_law_819 (pc' := 820) rfl ?_
    refine j_if_eq (tgt := 825) cx dL_law_820 (by decide) (pc' := 823) rfl (fun _ => ?_) (fun h => absurd (lcmp_self _) h)
    refine j_goto (tgt := 1884) cx dL_law_825 (by decide) ?_
    refine J.sub [2, 3, 4, 5, 6, 7] rfl (J.widen (k := cells + 20) (n := slots + 300) (by omega) (by omega) (hk _ _ _ ?_))
    exact ⟨rfl, rfl, rfl, rfl, ⟨_, shp_self _ _ _ _⟩, hD.imp (fun f hf => (shp_ne _ _ (by omega)).trans hf), hXM1, nm, ns, mu, hY.out (by decide), hFr.out (by decide), q5⟩
  · rw [if_neg hk0] at h9
    obtain ⟨e3, e4⟩ := h9
    subst sh9 S9
    have hXM1 := hXM
    refine J.stk (st2 := [.int (kc_lend S nm ns mu (xs (4 * t + 1)) (xs (4 * t + 2)) (xs (4 * t + 3)))]) rfl ?_
    refine j_istore (lv' := [(6, .int (kc_lend S nm ns mu (xs (4 * t + 1)) (xs (4 * t + 2)) (xs (4 * t + 3)))), (0, .ref b), (1, .ref (al 0 0)), (2, .ref (al 40 0)), (3, .ref (al 70 0)), (4, .ref (al 71 0)), (5, .int (nI (4 * t)))]) cx dL_law_771 (by decide) rfl (pc' := 773) rfl ?_
    refine j_aload_n (j := 3) cx dL_law_773 rfl rfl (pc' := 774) rfl ?_
    refine j_aload_n (j := 1) cx dL_law_774 rfl rfl (pc' := 775) rfl ?_
    refine j_iload (j := 6) cx dL_law_775 rfl (pc' := 777) rfl ?_
    refine j_iconst (v := 1) cx dL_law_777 (by decide) (pc' := 778) rfl ?_
    refine j_iadd cx dL_law_778 (pc' := 779) rfl ?_
    refine j_sld (n := 4 * t + 1) cx hX hb0 (nI_add (4 * t) 1) (by omega) dL_law_779 (pc' := 780) rfl ?_
    refine j_aload_n (j := 1) cx dL_law_780 rfl rfl (pc' := 781) rfl ?_
    refine j_iload (j := 6) cx dL_law_781 rfl (pc' := 783) rfl ?_
    refine j_iconst (v := 2) cx dL_law_783 (by decide) (pc' := 784) rfl ?_
    refine j_iadd cx dL_law_784 (pc' := 785) rfl ?_
    refine j_sld (n := 4 * t + 2) cx hX hb0 (nI_add (4 * t) 2) (by omega) dL_law_785 (pc' := 786) rfl ?_
    refine j_aload_n (j := 1) cx dL_law_786 rfl rfl (pc' := 787) rfl ?_
    refine j_iload (j := 6) cx dL_law_787 rfl (pc' := 789) rfl ?_
    refine j_iconst (v := 3) cx dL_law_789 (by decide) (pc' := 790) rfl ?_
    refine j_iadd cx dL_law_790 (pc' := 791) rfl ?_
    refine j_sld (n := 4 * t + 3) cx hX hb0 (nI_add (4 * t) 3) (by omega) dL_law_791 (pc' := 792) rfl ?_
    refine j_cVP (cells1 := cells + 5 + 0) (slots1 := slots + 30 + 0) (As := [.int (xs (4 * t + 1)), .int (xs (4 * t + 2)), .int (xs (4 * t + 3))]) (rest := []) cx (c_X3_lend hXM1 hN.1) gL_law_X3_lend rfl rfl rfl 3 rfl (by decide +kernel) ⟨(by show 3 + 1 ≤ _; omega), (by show 8 + (4 + 11) + 64 ≤ _; omega)⟩ hXM1.1 rfl rfl rfl rfl (Nat.le_of_ble_eq_true rfl) dL_law_792 ⟨by omega, by omega⟩ (pc' := 795) rfl rfl rfl (fun v9 al9 sh9 S9 h9 => ?_)
    obtain ⟨e1, e2, h9⟩ := h9
    subst al9 sh9
    have hm0 : ¬ km_lend S nm ns mu (xs (4 * t + 1)) (xs (4 * t + 2)) (xs (4 * t + 3)) = 0 := by rw [← hp1]; exact hk0
    rw [if_neg hm0] at h9
    obtain ⟨e5, e6⟩ := h9
    subst v9 S9
    refine J.stk (st2 := [.int 0]) rfl ?_
    refine j_istore (lv' := [(7, .int 0), (6, .int (kc_lend S nm ns mu (xs (4 * t + 1)) (xs (4 * t + 2)) (xs (4 * t + 3)))), (0, .ref b), (1, .ref (al 0 0)), (2, .ref (al 40 0)), (3, .ref (al 70 0)), (4, .ref (al 71 0)), (5, .int (nI (4 * t)))]) cx dL_law_795 (by decide) rfl (pc' := 797) rfl ?_
    refine j_aload_n (j := 4) cx dL_law_797 rfl rfl (pc' := 798) rfl ?_
    refine j_cVP (cells1 := cells + 5 + 0 + 0) (slots1 := slots + 30 + 0 + 0) (As := []) (rest := []) cx (c_X3_thrown hXM1) gL_law_X3_thrown rfl rfl rfl 0 rfl (by decide +kernel) ⟨(by show 0 + 1 ≤ _; omega), (by show 8 + (1 + 11) + 0 ≤ _; omega)⟩ hXM1.1 rfl rfl rfl rfl (Nat.le_of_ble_eq_true rfl) dL_law_798 ⟨by omega, by omega⟩ (pc' := 801) rfl rfl rfl (fun v9 al9 sh9 S9 h9 => ?_)
    obtain ⟨e1, e2, e3, e4⟩ := h9
    subst v9 al9 sh9 S9
    refine J.stk (st2 := [.int (kc_lend S nm ns mu (xs (4 * t + 1)) (xs (4 * t + 2)) (xs (4 * t + 3)))]) (congrArg (fun z => [Value.int z]) ((sup_self _ _ _ _ _).trans hp1.symm)) ?_
    refine j_iload (j := 1) cx dL_law_801 rfl (pc' := 803) rfl ?_
    refine j_icmp_eq (tgt := 808) cx dL_law_803 (by decide) (pc' := 806) rfl (fun _ => ?_) (fun h => absurd rfl h)
    refine j_iload (j := 1) cx dL_law_808 rfl (pc' := 810) rfl ?_
    refine j_if_ne (tgt := 825) cx dL_law_810 (by decide) (pc' := 813) rfl (fun _ => ?_) (fun h => absurd h hk0)
    refine j_goto (tgt := 1884) cx dL_law_825 (by decide) ?_
    refine J.sub [2, 3, 4, 5, 6, 7] rfl (J.widen (k := cells + 20) (n := slots + 300) (by omega) (by omega) (hk _ _ _ ?_))
    exact ⟨rfl, rfl, rfl, rfl, ⟨fo, hO⟩, hD, hXM, nm, ns, mu, hY, hFr, Eq.mp (congrArg (fun z => IN (sup S 40 0 0 z) nm ns mu (K + 5000)) hp1) (hp2 hk0)⟩
set_option maxHeartbeats 4000000 in
set_option maxRecDepth 100000 in
theorem l_giveBack {p : Program} {l : Launch} {e : Env} {R : Room} {s : State} {m : MethodId} {args : Array Value} {below : List Frame} {meth : Method} {c : Code} {cells slots : Nat} {Q : State → Prop} {Z : yL} {al : yAl} {sh : ySh} {S : yS} {b L t K x0 m0 o0 d0 : Nat} {xs : Nat → Int32} (hl0 : l.stackTraces = false) (cx : Cx p s m args c code 9 RL wsL_law Z) (hX : va_X b L xs s s.heap) (hb0 : b < s.heap.size ∧ ¬ Z.2.2.1 ≤ b) (hR : 20 ≤ R.frames ∧ 10000 ≤ R.locals ∧ cells + 20 ≤ R.cells ∧ slots + 300 ≤ R.slots) (ht : 4 * t + 4 ≤ L ∧ L ≤ 2048) (hW : WI Z x0 m0 o0 d0 K al sh S) (hp : ∀ nm ns mu, IN S nm ns mu K → P_giveBack S nm ns mu K (xs (4 * t + 1)) (xs (4 * t + 2)) (xs (4 * t + 3))) (hk : ∀ al9 sh9 S9, WI Z x0 m0 o0 d0 (K + 5000) al9 sh9 S9 → J p l e R s m args below meth c 9 Z (cells + 20) (slots + 300) Q al9 sh9 S9 1884 [(0, .ref b), (1, .ref x0), (2, .ref m0), (3, .ref o0), (4, .ref d0), (5, .int (nI (4 * t)))] []) : J p l e R s m args below meth c 9 Z cells slots Q al sh S 828 [(0, .ref b), (1, .ref x0), (2, .ref m0), (3, .ref o0), (4, .ref d0), (5, .int (nI (4 * t)))] [] := by
  obtain ⟨rfl, rfl, rfl, rfl, ⟨fo, hO⟩, hD, hXM, nm, ns, mu, hY, hFr, hN⟩ := hW
  obtain ⟨hp1, hp2, hp3⟩ := hp nm ns mu hN
  refine j_aload_n (j := 1) cx dL_law_828 rfl rfl (pc' := 829) rfl ?_
  refine j_aload_n (j := 0) cx dL_law_829 rfl rfl (pc' := 830) rfl ?_
  refine j_iload (j := 5) cx dL_law_830 rfl (pc' := 832) rfl ?_
  refine j_iconst (v := 1) cx dL_law_832 (by decide) (pc' := 833) rfl ?_
  refine j_iadd cx dL_law_833 (pc' := 834) rfl ?_
  refine j_sld (n := 4 * t + 1) cx hX hb0 (nI_add (4 * t) 1) (by omega) dL_law_834 (pc' := 835) rfl ?_
  refine j_aload_n (j := 0) cx dL_law_835 rfl rfl (pc' := 836) rfl ?_
  refine j_iload (j := 5) cx dL_law_836 rfl (pc' := 838) rfl ?_
  refine j_iconst (v := 2) cx dL_law_838 (by decide) (pc' := 839) rfl ?_
  refine j_iadd cx dL_law_839 (pc' := 840) rfl ?_
  refine j_sld (n := 4 * t + 2) cx hX hb0 (nI_add (4 * t) 2) (by omega) dL_law_840 (pc' := 841) rfl ?_
  refine j_aload_n (j := 0) cx dL_law_841 rfl rfl (pc' := 842) rfl ?_
  refine j_iload (j := 5) cx dL_law_842 rfl (pc' := 844) rfl ?_
  refine j_iconst (v := 3) cx dL_law_844 (by decide) (pc' := 845) rfl ?_
  refine j_iadd cx dL_law_845 (pc' := 846) rfl ?_
  refine j_sld (n := 4 * t + 3) cx hX hb0 (nI_add (4 * t) 3) (by omega) dL_law_846 (pc' := 847) rfl ?_
  refine j_aload_n (j := 3) cx dL_law_847 rfl rfl (pc' := 848) rfl ?_
  refine j_cSW (cells1 := cells + 5) (slots1 := slots + 30) (As := [.ref (al 0 0), .int (xs (4 * t + 1)), .int (xs (4 * t + 2)), .int (xs (4 * t + 3)), .ref (al 70 0)]) (rest := []) cx (c_L_giveBack hl0 hY hO) gL_law_L_giveBack rfl rfl rfl 5 rfl (by decide +kernel) ⟨(by show 9 + 1 ≤ _; omega), (by show 8 + (6 + 11) + 154 ≤ _; omega)⟩ rfl (Nat.le_of_ble_eq_true rfl) dL_law_848 ⟨by omega, by omega⟩ (pc' := 851) rfl rfl rfl (fun v9 al9 sh9 S9 h9 => ?_)
  obtain ⟨e1, e2, h9⟩ := h9
  subst v9 al9
  by_cases hk0 : kc_giveBack S nm ns mu (xs (4 * t + 1)) (xs (4 * t + 2)) (xs (4 * t + 3)) = 0
  · rw [if_pos hk0] at h9
    obtain ⟨e3, e4⟩ := h9
    subst sh9 S9
    obtain ⟨q1, q2, q3, q4, q5⟩ := hp3 hk0
    refine J.stk (st2 := [.int 0]) (congrArg (fun z => [Value.int z]) hk0) ?_
    have hXM1 : YM Z (shp sh 70 0 (yLo Z (vp_updL fo 0 (rc_giveBack S nm ns mu (xs (4 * t + 1)) (xs (4 * t + 2)) (xs (4 * t + 3))).toInt64))) := hXM.out (by decide)
    refine j_istore (lv' := [(6, .int 0), (0, .ref b), (1, .ref (al 0 0)), (2, .ref (al 40 0)), (3, .ref (al 70 0)), (4, .ref (al 71 0)), (5, .int (nI (4 * t)))]) cx dL_law_851 (by decide) rfl (pc' := 853) rfl ?_
    refine j_aload_n (j := 3) cx dL_law_853 rfl rfl (pc' := 854) rfl ?_
    refine j_aload_n (j := 1) cx dL_law_854 rfl rfl (pc' := 855) rfl ?_
    refine j_iload (j := 6) cx dL_law_855 rfl (pc' := 857) rfl ?_
    refine j_iconst (v := 1) cx dL_law_857 (by decide) (pc' := 858) rfl ?_
    refine j_iadd cx dL_law_858 (pc' := 859) rfl ?_
    refine j_sld (n := 4 * t + 1) cx hX hb0 (nI_add (4 * t) 1) (by omega) dL_law_859 (pc' := 860) rfl ?_
    refine j_aload_n (j := 1) cx dL_law_860 rfl rfl (pc' := 861) rfl ?_
    refine j_iload (j := 6) cx dL_law_861 rfl (pc' := 863) rfl ?_
    refine j_iconst (v := 2) cx dL_law_863 (by decide) (pc' := 864) rfl ?_
    refine j_iadd cx dL_law_864 (pc' := 865) rfl ?_
    refine j_sld (n := 4 * t + 2) cx hX hb0 (nI_add (4 * t) 2) (by omega) dL_law_865 (pc' := 866) rfl ?_
    refine j_aload_n (j := 1) cx dL_law_866 rfl rfl (pc' := 867) rfl ?_
    refine j_iload (j := 6) cx dL_law_867 rfl (pc' := 869) rfl ?_
    refine j_iconst (v := 3) cx dL_law_869 (by decide) (pc' := 870) rfl ?_
    refine j_iadd cx dL_law_870 (pc' := 871) rfl ?_
    refine j_sld (n := 4 * t + 3) cx hX hb0 (nI_add (4 * t) 3) (by omega) dL_law_871 (pc' := 872) rfl ?_
    refine j_cVP (cells1 := cells + 5 + 0) (slots1 := slots + 30 + 0) (As := [.int (xs (4 * t + 1)), .int (xs (4 * t + 2)), .int (xs (4 * t + 3))]) (rest := []) cx (c_X3_giveBack hXM1 q1) gL_law_X3_giveBack rfl rfl rfl 3 rfl (by decide +kernel) ⟨(by show 3 + 1 ≤ _; omega), (by show 8 + (5 + 11) + 64 ≤ _; omega)⟩ hXM1.1 rfl rfl rfl rfl (Nat.le_of_ble_eq_true rfl) dL_law_872 ⟨by omega, by omega⟩ (pc' := 875) rfl rfl rfl (fun v9 al9 sh9 S9 h9 => ?_)
    obtain ⟨e1, e2, h9⟩ := h9
    subst al9 sh9
    rw [if_pos q2] at h9
    obtain ⟨e5, e6⟩ := h9
    subst v9 S9
    refine J.stk (st2 := [.int (rc_giveBack S nm ns mu (xs (4 * t + 1)) (xs (4 * t + 2)) (xs (4 * t + 3)))]) (congrArg (fun z => [Value.int z]) q3) ?_
    refine j_istore (lv' := [(7, .int (rc_giveBack S nm ns mu (xs (4 * t + 1)) (xs (4 * t + 2)) (xs (4 * t + 3)))), (6, .int 0), (0, .ref b), (1, .ref (al 0 0)), (2, .ref (al 40 0)), (3, .ref (al 70 0)), (4, .ref (al 71 0)), (5, .int (nI (4 * t)))]) cx dL_law_875 (by decide) rfl (pc' := 877) rfl ?_
    refine j_aload_n (j := 4) cx dL_law_877 rfl rfl (pc' := 878) rfl ?_
    refine j_cVP (cells1 := cells + 5 + 0 + 0) (slots1 := slots + 30 + 0 + 0) (As := []) (rest := []) cx (c_X3_thrown hXM1) gL_law_X3_thrown rfl rfl rfl 0 rfl (by decide +kernel) ⟨(by show 0 + 1 ≤ _; omega), (by show 8 + (1 + 11) + 0 ≤ _; omega)⟩ hXM1.1 rfl rfl rfl rfl (Nat.le_of_ble_eq_true rfl) dL_law_878 ⟨by omega, by omega⟩ (pc' := 881) rfl rfl rfl (fun v9 al9 sh9 S9 h9 => ?_)
    obtain ⟨e1, e2, e3, e4⟩ := h9
    subst v9 al9 sh9 S9
    refine J.stk (st2 := [.int 0]) (congrArg (fun z => [Value.int z]) q4) ?_
    refine j_iload (j := 1) cx dL_law_881 rfl (pc' := 883) rfl ?_
    refine j_icmp_eq (tgt := 888) cx dL_law_883 (by decide) (pc' := 886) rfl (fun _ => ?_) (fun h => absurd rfl h)
    refine j_iload (j := 1) cx dL_law_888 rfl (pc' := 890) rfl ?_
    refine j_if_ne (tgt := 905) cx dL_law_890 (by decide) (pc' := 893) rfl (fun h => absurd rfl h) (fun _ => ?_)
    refine j_aload_n (j := 5) cx dL_law_893 rfl rfl (pc' := 894) rfl ?_
    refine j_iconst (v := 0) cx dL_law_894 (by decide) (pc' := 895) rfl ?_
    refine j_laldX cx (shp_self _ _ _ _) rfl rfl dL_law_895 (pc' := 896) rfl ?_
    refine j_iload (j := 0) cx dL_law_896 rfl (pc' := 898) rfl ?_
    refine j_i2l cx dL_law_898 rfl (pc' := 899) rfl ?_
    refine j_lcmp cx dL_law_899 (pc' := 900) rfl ?_
    refine j_if_eq (tgt := 905) cx dL_law_900 (by decide) (pc' := 903) rfl (fun _ => ?_) (fun h => absurd (lcmp_self _) h)
    refine j_goto (tgt := 1884) cx dL_law_905 (by decide) ?_
    refine J.sub [2, 3, 4, 5, 6, 7] rfl (J.widen (k := cells + 20) (n := slots + 300) (by omega) (by omega) (hk _ _ _ ?_))
    exact ⟨rfl, rfl, rfl, rfl, ⟨_, shp_self _ _ _ _⟩, hD.imp (fun f hf => (shp_ne _ _ (by omega)).trans hf), hXM1, nm, ns, mu, hY.out (by decide), hFr.out (by decide), q5⟩
  · rw [if_neg hk0] at h9
    obtain ⟨e3, e4⟩ := h9
    subst sh9 S9
    have hXM1 := hXM
    refine J.stk (st2 := [.int (kc_giveBack S nm ns mu (xs (4 * t + 1)) (xs (4 * t + 2)) (xs (4 * t + 3)))]) rfl ?_
    refine j_istore (lv' := [(6, .int (kc_giveBack S nm ns mu (xs (4 * t + 1)) (xs (4 * t + 2)) (xs (4 * t + 3)))), (0, .ref b), (1, .ref (al 0 0)), (2, .ref (al 40 0)), (3, .ref (al 70 0)), (4, .ref (al 71 0)), (5, .int (nI (4 * t)))]) cx dL_law_851 (by decide) rfl (pc' := 853) rfl ?_
    refine j_aload_n (j := 3) cx dL_law_853 rfl rfl (pc' := 854) rfl ?_
    refine j_aload_n (j := 1) cx dL_law_854 rfl rfl (pc' := 855) rfl ?_
    refine j_iload (j := 6) cx dL_law_855 rfl (pc' := 857) rfl ?_
    refine j_iconst (v := 1) cx dL_law_857 (by decide) (pc' := 858) rfl ?_
    refine j_iadd cx dL_law_858 (pc' := 859) rfl ?_
    refine j_sld (n := 4 * t + 1) cx hX hb0 (nI_add (4 * t) 1) (by omega) dL_law_859 (pc' := 860) rfl ?_
    refine j_aload_n (j := 1) cx dL_law_860 rfl rfl (pc' := 861) rfl ?_
    refine j_iload (j := 6) cx dL_law_861 rfl (pc' := 863) rfl ?_
    refine j_iconst (v := 2) cx dL_law_863 (by decide) (pc' := 864) rfl ?_
    refine j_iadd cx dL_law_864 (pc' := 865) rfl ?_
    refine j_sld (n := 4 * t + 2) cx hX hb0 (nI_add (4 * t) 2) (by omega) dL_law_865 (pc' := 866) rfl ?_
    refine j_aload_n (j := 1) cx dL_law_866 rfl rfl (pc' := 867) rfl ?_
    refine j_iload (j := 6) cx dL_law_867 rfl (pc' := 869) rfl ?_
    refine j_iconst (v := 3) cx dL_law_869 (by decide) (pc' := 870) rfl ?_
    refine j_iadd cx dL_law_870 (pc' := 871) rfl ?_
    refine j_sld (n := 4 * t + 3) cx hX hb0 (nI_add (4 * t) 3) (by omega) dL_law_871 (pc' := 872) rfl ?_
    refine j_cVP (cells1 := cells + 5 + 0) (slots1 := slots + 30 + 0) (As := [.int (xs (4 * t + 1)), .int (xs (4 * t + 2)), .int (xs (4 * t + 3))]) (rest := []) cx (c_X3_giveBack hXM1 hN.1) gL_law_X3_giveBack rfl rfl rfl 3 rfl (by decide +kernel) ⟨(by show 3 + 1 ≤ _; omega), (by show 8 + (5 + 11) + 64 ≤ _; omega)⟩ hXM1.1 rfl rfl rfl rfl (Nat.le_of_ble_eq_true rfl) dL_law_872 ⟨by omega, by omega⟩ (pc' := 875) rfl rfl rfl (fun v9 al9 sh9 S9 h9 => ?_)
    obtain ⟨e1, e2, h9⟩ := h9
    subst al9 sh9
    have hm0 : ¬ km_giveBack S nm ns mu (xs (4 * t + 1)) (xs (4 * t + 2)) (xs (4 * t + 3)) = 0 := by rw [← hp1]; exact hk0
    rw [if_neg hm0] at h9
    obtain ⟨e5, e6⟩ := h9
    subst v9 S9
    refine J.stk (st2 := [.int 0]) rfl ?_
    refine j_istore (lv' := [(7, .int 0), (6, .int (kc_giveBack S nm ns mu (xs (4 * t + 1)) (xs (4 * t + 2)) (xs (4 * t + 3)))), (0, .ref b), (1, .ref (al 0 0)), (2, .ref (al 40 0)), (3, .ref (al 70 0)), (4, .ref (al 71 0)), (5, .int (nI (4 * t)))]) cx dL_law_875 (by decide) rfl (pc' := 877) rfl ?_
    refine j_aload_n (j := 4) cx dL_law_877 rfl rfl (pc' := 878) rfl ?_
    refine j_cVP (cells1 := cells + 5 + 0 + 0) (slots1 := slots + 30 + 0 + 0) (As := []) (rest := []) cx (c_X3_thrown hXM1) gL_law_X3_thrown rfl rfl rfl 0 rfl (by decide +kernel) ⟨(by show 0 + 1 ≤ _; omega), (by show 8 + (1 + 11) + 0 ≤ _; omega)⟩ hXM1.1 rfl rfl rfl rfl (Nat.le_of_ble_eq_true rfl) dL_law_878 ⟨by omega, by omega⟩ (pc' := 881) rfl rfl rfl (fun v9 al9 sh9 S9 h9 => ?_)
    obtain ⟨e1, e2, e3, e4⟩ := h9
    subst v9 al9 sh9 S9
    refine J.stk (st2 := [.int (kc_giveBack S nm ns mu (xs (4 * t + 1)) (xs (4 * t + 2)) (xs (4 * t + 3)))]) (congrArg (fun z => [Value.int z]) ((sup_self _ _ _ _ _).trans hp1.symm)) ?_
    refine j_iload (j := 1) cx dL_law_881 rfl (pc' := 883) rfl ?_
    refine j_icmp_eq (tgt := 888) cx dL_law_883 (by decide) (pc' := 886) rfl (fun _ => ?_) (fun h => absurd rfl h)
    refine j_iload (j := 1) cx dL_law_888 rfl (pc' := 890) rfl ?_
    refine j_if_ne (tgt := 905) cx dL_law_890 (by decide) (pc' := 893) rfl (fun _ => ?_) (fun h => absurd h hk0)
    refine j_goto (tgt := 1884) cx dL_law_905 (by decide) ?_
    refine J.sub [2, 3, 4, 5, 6, 7] rfl (J.widen (k := cells + 20) (n := slots + 300) (by omega) (by omega) (hk _ _ _ ?_))
    exact ⟨rfl, rfl, rfl, rfl, ⟨fo, hO⟩, hD, hXM, nm, ns, mu, hY, hFr, Eq.mp (congrArg (fun z => IN (sup S 40 0 0 z) nm ns mu (K + 5000)) hp1) (hp2 hk0)⟩
set_option maxHeartbeats 4000000 in
set_option maxRecDepth 100000 in
theorem l_minutes {p : Program} {l : Launch} {e : Env} {R : Room} {s : State} {m : MethodId} {args : Array Value} {below : List Frame} {meth : Method} {c : Code} {cells slots : Nat} {Q : State → Prop} {Z : yL} {al : yAl} {sh : ySh} {S : yS} {b L t K x0 m0 o0 d0 : Nat} {xs : Nat → Int32} (hl0 : l.stackTraces = false) (cx : Cx p s m args c code 9 RL wsL_law Z) (hX : va_X b L xs s s.heap) (hb0 : b < s.heap.size ∧ ¬ Z.2.2.1 ≤ b) (hR : 20 ≤ R.frames ∧ 10000 ≤ R.locals ∧ cells + 20 ≤ R.cells ∧ slots + 300 ≤ R.slots) (ht : 4 * t + 4 ≤ L ∧ L ≤ 2048) (hW : WI Z x0 m0 o0 d0 K al sh S) (hp : ∀ nm ns mu, IN S nm ns mu K → P_minutes S nm ns mu K (xs (4 * t + 1))) (hk : ∀ al9 sh9 S9, WI Z x0 m0 o0 d0 (K + 5000) al9 sh9 S9 → J p l e R s m args below meth c 9 Z (cells + 20) (slots + 300) Q al9 sh9 S9 1884 [(0, .ref b), (1, .ref x0), (2, .ref m0), (3, .ref o0), (4, .ref d0), (5, .int (nI (4 * t)))] []) : J p l e R s m args below meth c 9 Z cells slots Q al sh S 908 [(0, .ref b), (1, .ref x0), (2, .ref m0), (3, .ref o0), (4, .ref d0), (5, .int (nI (4 * t)))] [] := by
  obtain ⟨rfl, rfl, rfl, rfl, ⟨fo, hO⟩, hD, hXM, nm, ns, mu, hY, hFr, hN⟩ := hW
  obtain ⟨hp1, hp2, hp3⟩ := hp nm ns mu hN
  refine j_aload_n (j := 1) cx dL_law_908 rfl rfl (pc' := 909) rfl ?_
  refine j_aload_n (j := 0) cx dL_law_909 rfl rfl (pc' := 910) rfl ?_
  refine j_iload (j := 5) cx dL_law_910 rfl (pc' := 912) rfl ?_
  refine j_iconst (v := 1) cx dL_law_912 (by decide) (pc' := 913) rfl ?_
  refine j_iadd cx dL_law_913 (pc' := 914) rfl ?_
  refine j_sld (n := 4 * t + 1) cx hX hb0 (nI_add (4 * t) 1) (by omega) dL_law_914 (pc' := 915) rfl ?_
  refine j_aload_n (j := 3) cx dL_law_915 rfl rfl (pc' := 916) rfl ?_
  refine j_cSW (cells1 := cells + 1) (slots1 := slots + 6) (As := [.ref (al 0 0), .int (xs (4 * t + 1)), .ref (al 70 0)]) (rest := []) cx (c_L_minutes hl0 hY hO) gL_law_L_minutes rfl rfl rfl 3 rfl (by decide +kernel) ⟨(by show 8 + 1 ≤ _; omega), (by show 8 + (4 + 11) + 131 ≤ _; omega)⟩ rfl (Nat.le_of_ble_eq_true rfl) dL_law_916 ⟨by omega, by omega⟩ (pc' := 919) rfl rfl rfl (fun v9 al9 sh9 S9 h9 => ?_)
  obtain ⟨e1, e2, h9⟩ := h9
  subst v9 al9
  by_cases hk0 : kc_minutes S nm ns mu (xs (4 * t + 1)) = 0
  · rw [if_pos hk0] at h9
    obtain ⟨e3, e4⟩ := h9
    subst sh9 S9
    obtain ⟨q1, q2, q3, q4, q5⟩ := hp3 hk0
    refine J.stk (st2 := [.int 0]) (congrArg (fun z => [Value.int z]) hk0) ?_
    have hXM1 : YM Z (shp sh 70 0 (yLo Z (vp_updL fo 0 (rc_minutes S nm ns mu (xs (4 * t + 1))).toInt64))) := hXM.out (by decide)
    refine j_istore (lv' := [(6, .int 0), (0, .ref b), (1, .ref (al 0 0)), (2, .ref (al 40 0)), (3, .ref (al 70 0)), (4, .ref (al 71 0)), (5, .int (nI (4 * t)))]) cx dL_law_919 (by decide) rfl (pc' := 921) rfl ?_
    refine j_aload_n (j := 3) cx dL_law_921 rfl rfl (pc' := 922) rfl ?_
    refine j_aload_n (j := 1) cx dL_law_922 rfl rfl (pc' := 923) rfl ?_
    refine j_iload (j := 6) cx dL_law_923 rfl (pc' := 925) rfl ?_
    refine j_iconst (v := 1) cx dL_law_925 (by decide) (pc' := 926) rfl ?_
    refine j_iadd cx dL_law_926 (pc' := 927) rfl ?_
    refine j_sld (n := 4 * t + 1) cx hX hb0 (nI_add (4 * t) 1) (by omega) dL_law_927 (pc' := 928) rfl ?_
    refine j_cVP (cells1 := cells + 1 + 0) (slots1 := slots + 6 + 0) (As := [.int (xs (4 * t + 1))]) (rest := []) cx (c_X3_minutes hXM1 q1) gL_law_X3_minutes rfl rfl rfl 1 rfl (by decide +kernel) ⟨(by show 2 + 1 ≤ _; omega), (by show 8 + (2 + 11) + 42 ≤ _; omega)⟩ hXM1.1 rfl rfl rfl rfl (Nat.le_of_ble_eq_true rfl) dL_law_928 ⟨by omega, by omega⟩ (pc' := 931) rfl rfl rfl (fun v9 al9 sh9 S9 h9 => ?_)
    obtain ⟨e1, e2, h9⟩ := h9
    subst al9 sh9
    rw [if_pos q2] at h9
    obtain ⟨e5, e6⟩ := h9
    subst v9 S9
    refine J.stk (st2 := [.int (rc_minutes S nm ns mu (xs (4 * t + 1)))]) (congrArg (fun z => [Value.int z]) q3) ?_
    refine j_istore (lv' := [(7, .int (rc_minutes S nm ns mu (xs (4 * t + 1)))), (6, .int 0), (0, .ref b), (1, .ref (al 0 0)), (2, .ref (al 40 0)), (3, .ref (al 70 0)), (4, .ref (al 71 0)), (5, .int (nI (4 * t)))]) cx dL_law_931 (by decide) rfl (pc' := 933) rfl ?_
    refine j_aload_n (j := 4) cx dL_law_933 rfl rfl (pc' := 934) rfl ?_
    refine j_cVP (cells1 := cells + 1 + 0 + 0) (slots1 := slots + 6 + 0 + 0) (As := []) (rest := []) cx (c_X3_thrown hXM1) gL_law_X3_thrown rfl rfl rfl 0 rfl (by decide +kernel) ⟨(by show 0 + 1 ≤ _; omega), (by show 8 + (1 + 11) + 0 ≤ _; omega)⟩ hXM1.1 rfl rfl rfl rfl (Nat.le_of_ble_eq_true rfl) dL_law_934 ⟨by omega, by omega⟩ (pc' := 937) rfl rfl rfl (fun v9 al9 sh9 S9 h9 => ?_)
    obtain ⟨e1, e2, e3, e4⟩ := h9
    subst v9 al9 sh9 S9
    refine J.stk (st2 := [.int 0]) (congrArg (fun z => [Value.int z]) q4) ?_
    refine j_iload (j := 1) cx dL_law_937 rfl (pc' := 939) rfl ?_
    refine j_icmp_eq (tgt := 944) cx dL_law_939 (by decide) (pc' := 942) rfl (fun _ => ?_) (fun h => absurd rfl h)
    refine j_iload (j := 1) cx dL_law_944 rfl (pc' := 946) rfl ?_
    refine j_if_ne (tgt := 961) cx dL_law_946 (by decide) (pc' := 949) rfl (fun h => absurd rfl h) (fun _ => ?_)
    refine j_aload_n (j := 5) cx dL_law_949 rfl rfl (pc' := 950) rfl ?_
    refine j_iconst (v := 0) cx dL_law_950 (by decide) (pc' := 951) rfl ?_
    refine j_laldX cx (shp_self _ _ _ _) rfl rfl dL_law_951 (pc' := 952) rfl ?_
    refine j_iload (j := 0) cx dL_law_952 rfl (pc' := 954) rfl ?_
    refine j_i2l cx dL_law_954 rfl (pc' := 955) rfl ?_
    refine j_lcmp cx dL_law_955 (pc' := 956) rfl ?_
    refine j_if_eq (tgt := 961) cx dL_law_956 (by decide) (pc' := 959) rfl (fun _ => ?_) (fun h => absurd (lcmp_self _) h)
    refine j_goto (tgt := 1884) cx dL_law_961 (by decide) ?_
    refine J.sub [2, 3, 4, 5, 6, 7] rfl (J.widen (k := cells + 20) (n := slots + 300) (by omega) (by omega) (hk _ _ _ ?_))
    exact ⟨rfl, rfl, rfl, rfl, ⟨_, shp_self _ _ _ _⟩, hD.imp (fun f hf => (shp_ne _ _ (by omega)).trans hf), hXM1, nm, ns, mu, hY.out (by decide), hFr.out (by decide), q5⟩
  · rw [if_neg hk0] at h9
    obtain ⟨e3, e4⟩ := h9
    subst sh9 S9
    have hXM1 := hXM
    refine J.stk (st2 := [.int (kc_minutes S nm ns mu (xs (4 * t + 1)))]) rfl ?_
    refine j_istore (lv' := [(6, .int (kc_minutes S nm ns mu (xs (4 * t + 1)))), (0, .ref b), (1, .ref (al 0 0)), (2, .ref (al 40 0)), (3, .ref (al 70 0)), (4, .ref (al 71 0)), (5, .int (nI (4 * t)))]) cx dL_law_919 (by decide) rfl (pc' := 921) rfl ?_
    refine j_aload_n (j := 3) cx dL_law_921 rfl rfl (pc' := 922) rfl ?_
    refine j_aload_n (j := 1) cx dL_law_922 rfl rfl (pc' := 923) rfl ?_
    refine j_iload (j := 6) cx dL_law_923 rfl (pc' := 925) rfl ?_
    refine j_iconst (v := 1) cx dL_law_925 (by decide) (pc' := 926) rfl ?_
    refine j_iadd cx dL_law_926 (pc' := 927) rfl ?_
    refine j_sld (n := 4 * t + 1) cx hX hb0 (nI_add (4 * t) 1) (by omega) dL_law_927 (pc' := 928) rfl ?_
    refine j_cVP (cells1 := cells + 1 + 0) (slots1 := slots + 6 + 0) (As := [.int (xs (4 * t + 1))]) (rest := []) cx (c_X3_minutes hXM1 hN.1) gL_law_X3_minutes rfl rfl rfl 1 rfl (by decide +kernel) ⟨(by show 2 + 1 ≤ _; omega), (by show 8 + (2 + 11) + 42 ≤ _; omega)⟩ hXM1.1 rfl rfl rfl rfl (Nat.le_of_ble_eq_true rfl) dL_law_928 ⟨by omega, by omega⟩ (pc' := 931) rfl rfl rfl (fun v9 al9 sh9 S9 h9 => ?_)
    obtain ⟨e1, e2, h9⟩ := h9
    subst al9 sh9
    have hm0 : ¬ km_minutes S nm ns mu (xs (4 * t + 1)) = 0 := by rw [← hp1]; exact hk0
    rw [if_neg hm0] at h9
    obtain ⟨e5, e6⟩ := h9
    subst v9 S9
    refine J.stk (st2 := [.int 0]) rfl ?_
    refine j_istore (lv' := [(7, .int 0), (6, .int (kc_minutes S nm ns mu (xs (4 * t + 1)))), (0, .ref b), (1, .ref (al 0 0)), (2, .ref (al 40 0)), (3, .ref (al 70 0)), (4, .ref (al 71 0)), (5, .int (nI (4 * t)))]) cx dL_law_931 (by decide) rfl (pc' := 933) rfl ?_
    refine j_aload_n (j := 4) cx dL_law_933 rfl rfl (pc' := 934) rfl ?_
    refine j_cVP (cells1 := cells + 1 + 0 + 0) (slots1 := slots + 6 + 0 + 0) (As := []) (rest := []) cx (c_X3_thrown hXM1) gL_law_X3_thrown rfl rfl rfl 0 rfl (by decide +kernel) ⟨(by show 0 + 1 ≤ _; omega), (by show 8 + (1 + 11) + 0 ≤ _; omega)⟩ hXM1.1 rfl rfl rfl rfl (Nat.le_of_ble_eq_true rfl) dL_law_934 ⟨by omega, by omega⟩ (pc' := 937) rfl rfl rfl (fun v9 al9 sh9 S9 h9 => ?_)
    obtain ⟨e1, e2, e3, e4⟩ := h9
    subst v9 al9 sh9 S9
    refine J.stk (st2 := [.int (kc_minutes S nm ns mu (xs (4 * t + 1)))]) (congrArg (fun z => [Value.int z]) ((sup_self _ _ _ _ _).trans hp1.symm)) ?_
    refine j_iload (j := 1) cx dL_law_937 rfl (pc' := 939) rfl ?_
    refine j_icmp_eq (tgt := 944) cx dL_law_939 (by decide) (pc' := 942) rfl (fun _ => ?_) (fun h => absurd rfl h)
    refine j_iload (j := 1) cx dL_law_944 rfl (pc' := 946) rfl ?_
    refine j_if_ne (tgt := 961) cx dL_law_946 (by decide) (pc' := 949) rfl (fun _ => ?_) (fun h => absurd h hk0)
    refine j_goto (tgt := 1884) cx dL_law_961 (by decide) ?_
    refine J.sub [2, 3, 4, 5, 6, 7] rfl (J.widen (k := cells + 20) (n := slots + 300) (by omega) (by omega) (hk _ _ _ ?_))
    exact ⟨rfl, rfl, rfl, rfl, ⟨fo, hO⟩, hD, hXM, nm, ns, mu, hY, hFr, Eq.mp (congrArg (fun z => IN (sup S 40 0 0 z) nm ns mu (K + 5000)) hp1) (hp2 hk0)⟩
set_option maxHeartbeats 4000000 in
set_option maxRecDepth 100000 in
theorem l_minutesBySessions {p : Program} {l : Launch} {e : Env} {R : Room} {s : State} {m : MethodId} {args : Array Value} {below : List Frame} {meth : Method} {c : Code} {cells slots : Nat} {Q : State → Prop} {Z : yL} {al : yAl} {sh : ySh} {S : yS} {b L t K x0 m0 o0 d0 : Nat} {xs : Nat → Int32} (hl0 : l.stackTraces = false) (cx : Cx p s m args c code 9 RL wsL_law Z) (hX : va_X b L xs s s.heap) (hb0 : b < s.heap.size ∧ ¬ Z.2.2.1 ≤ b) (hR : 20 ≤ R.frames ∧ 10000 ≤ R.locals ∧ cells + 20 ≤ R.cells ∧ slots + 300 ≤ R.slots) (ht : 4 * t + 4 ≤ L ∧ L ≤ 2048) (hW : WI Z x0 m0 o0 d0 K al sh S) (hp : ∀ nm ns mu, IN S nm ns mu K → P_minutesBySessions S nm ns mu K (xs (4 * t + 1))) (hk : ∀ al9 sh9 S9, WI Z x0 m0 o0 d0 (K + 5000) al9 sh9 S9 → J p l e R s m args below meth c 9 Z (cells + 20) (slots + 300) Q al9 sh9 S9 1884 [(0, .ref b), (1, .ref x0), (2, .ref m0), (3, .ref o0), (4, .ref d0), (5, .int (nI (4 * t)))] []) : J p l e R s m args below meth c 9 Z cells slots Q al sh S 964 [(0, .ref b), (1, .ref x0), (2, .ref m0), (3, .ref o0), (4, .ref d0), (5, .int (nI (4 * t)))] [] := by
  obtain ⟨rfl, rfl, rfl, rfl, ⟨fo, hO⟩, hD, hXM, nm, ns, mu, hY, hFr, hN⟩ := hW
  obtain ⟨hp1, hp2, hp3⟩ := hp nm ns mu hN
  refine j_aload_n (j := 1) cx dL_law_964 rfl rfl (pc' := 965) rfl ?_
  refine j_aload_n (j := 0) cx dL_law_965 rfl rfl (pc' := 966) rfl ?_
  refine j_iload (j := 5) cx dL_law_966 rfl (pc' := 968) rfl ?_
  refine j_iconst (v := 1) cx dL_law_968 (by decide) (pc' := 969) rfl ?_
  refine j_iadd cx dL_law_969 (pc' := 970) rfl ?_
  refine j_sld (n := 4 * t + 1) cx hX hb0 (nI_add (4 * t) 1) (by omega) dL_law_970 (pc' := 971) rfl ?_
  refine j_aload_n (j := 3) cx dL_law_971 rfl rfl (pc' := 972) rfl ?_
  refine j_cSW (cells1 := cells + 1) (slots1 := slots + 6) (As := [.ref (al 0 0), .int (xs (4 * t + 1)), .ref (al 70 0)]) (rest := []) cx (c_L_minutesBySessions hl0 hY hN.2.1.2.1 hO) gL_law_L_minutesBySessions rfl rfl rfl 3 rfl (by decide +kernel) ⟨(by show 10 + 1 ≤ _; omega), (by show 8 + (4 + 11) + 177 ≤ _; omega)⟩ rfl (Nat.le_of_ble_eq_true rfl) dL_law_972 ⟨by omega, by omega⟩ (pc' := 975) rfl rfl rfl (fun v9 al9 sh9 S9 h9 => ?_)
  obtain ⟨e1, e2, h9⟩ := h9
  subst v9 al9
  by_cases hk0 : kc_minutesBySessions S nm ns mu (xs (4 * t + 1)) = 0
  · rw [if_pos hk0] at h9
    obtain ⟨e3, e4⟩ := h9
    subst sh9 S9
    obtain ⟨q1, q2, q3, q4, q5⟩ := hp3 hk0
    refine J.stk (st2 := [.int 0]) (congrArg (fun z => [Value.int z]) hk0) ?_
    have hXM1 : YM Z (shp sh 70 0 (yLo Z (vp_updL fo 0 (rc_minutesBySessions S nm ns mu (xs (4 * t + 1))).toInt64))) := hXM.out (by decide)
    refine j_istore (lv' := [(6, .int 0), (0, .ref b), (1, .ref (al 0 0)), (2, .ref (al 40 0)), (3, .ref (al 70 0)), (4, .ref (al 71 0)), (5, .int (nI (4 * t)))]) cx dL_law_975 (by decide) rfl (pc' := 977) rfl ?_
    refine j_aload_n (j := 3) cx dL_law_977 rfl rfl (pc' := 978) rfl ?_
    refine j_aload_n (j := 1) cx dL_law_978 rfl rfl (pc' := 979) rfl ?_
    refine j_iload (j := 6) cx dL_law_979 rfl (pc' := 981) rfl ?_
    refine j_iconst (v := 1) cx dL_law_981 (by decide) (pc' := 982) rfl ?_
    refine j_iadd cx dL_law_982 (pc' := 983) rfl ?_
    refine j_sld (n := 4 * t + 1) cx hX hb0 (nI_add (4 * t) 1) (by omega) dL_law_983 (pc' := 984) rfl ?_
    refine j_cVP (cells1 := cells + 1 + 0) (slots1 := slots + 6 + 0) (As := [.int (xs (4 * t + 1))]) (rest := []) cx (c_X3_minutesBySessions hXM1 q1) gL_law_X3_minutesBySessions rfl rfl rfl 1 rfl (by decide +kernel) ⟨(by show 3 + 1 ≤ _; omega), (by show 8 + (2 + 11) + 63 ≤ _; omega)⟩ hXM1.1 rfl rfl rfl rfl (Nat.le_of_ble_eq_true rfl) dL_law_984 ⟨by omega, by omega⟩ (pc' := 987) rfl rfl rfl (fun v9 al9 sh9 S9 h9 => ?_)
    obtain ⟨e1, e2, h9⟩ := h9
    subst al9 sh9
    rw [if_pos q2] at h9
    obtain ⟨e5, e6⟩ := h9
    subst v9 S9
    refine J.stk (st2 := [.int (rc_minutesBySessions S nm ns mu (xs (4 * t + 1)))]) (congrArg (fun z => [Value.int z]) q3) ?_
    refine j_istore (lv' := [(7, .int (rc_minutesBySessions S nm ns mu (xs (4 * t + 1)))), (6, .int 0), (0, .ref b), (1, .ref (al 0 0)), (2, .ref (al 40 0)), (3, .ref (al 70 0)), (4, .ref (al 71 0)), (5, .int (nI (4 * t)))]) cx dL_law_987 (by decide) rfl (pc' := 989) rfl ?_
    refine j_aload_n (j := 4) cx dL_law_989 rfl rfl (pc' := 990) rfl ?_
    refine j_cVP (cells1 := cells + 1 + 0 + 0) (slots1 := slots + 6 + 0 + 0) (As := []) (rest := []) cx (c_X3_thrown hXM1) gL_law_X3_thrown rfl rfl rfl 0 rfl (by decide +kernel) ⟨(by show 0 + 1 ≤ _; omega), (by show 8 + (1 + 11) + 0 ≤ _; omega)⟩ hXM1.1 rfl rfl rfl rfl (Nat.le_of_ble_eq_true rfl) dL_law_990 ⟨by omega, by omega⟩ (pc' := 993) rfl rfl rfl (fun v9 al9 sh9 S9 h9 => ?_)
    obtain ⟨e1, e2, e3, e4⟩ := h9
    subst v9 al9 sh9 S9
    refine J.stk (st2 := [.int 0]) (congrArg (fun z => [Value.int z]) q4) ?_
    refine j_iload (j := 1) cx dL_law_993 rfl (pc' := 995) rfl ?_
    refine j_icmp_eq (tgt := 1000) cx dL_law_995 (by decide) (pc' := 998) rfl (fun _ => ?_) (fun h => absurd rfl h)
    refine j_iload (j := 1) cx dL_law_1000 rfl (pc' := 1002) rfl ?_
    refine j_if_ne (tgt := 1017) cx dL_law_1002 (by decide) (pc' := 1005) rfl (fun h => absurd rfl h) (fun _ => ?_)
    refine j_aload_n (j := 5) cx dL_law_1005 rfl rfl (pc' := 1006) rfl ?_
    refine j_iconst (v := 0) cx dL_law_1006 (by decide) (pc' := 1007) rfl ?_
    refine j_laldX cx (shp_self _ _ _ _) rfl rfl dL_law_1007 (pc' := 1008) rfl ?_
    refine j_iload (j := 0) cx dL_law_1008 rfl (pc' := 1010) rfl ?_
    refine j_i2l cx dL_law_1010 rfl (pc' := 1011) rfl ?_
    refine j_lcmp cx dL_law_1011 (pc' := 1012) rfl ?_
    refine j_if_eq (tgt := 1017) cx dL_law_1012 (by decide) (pc' := 1015) rfl (fun _ => ?_) (fun h => absurd (lcmp_self _) h)
    refine j_goto (tgt := 1884) cx dL_law_1017 (by decide) ?_
    refine J.sub [2, 3, 4, 5, 6, 7] rfl (J.widen (k := cells + 20) (n := slots + 300) (by omega) (by omega) (hk _ _ _ ?_))
    exact ⟨rfl, rfl, rfl, rfl, ⟨_, shp_self _ _ _ _⟩, hD.imp (fun f hf => (shp_ne _ _ (by omega)).trans hf), hXM1, nm, ns, mu, hY.out (by decide), hFr.out (by decide), q5⟩
  · rw [if_neg hk0] at h9
    obtain ⟨e3, e4⟩ := h9
    subst sh9 S9
    have hXM1 := hXM
    refine J.stk (st2 := [.int (kc_minutesBySessions S nm ns mu (xs (4 * t + 1)))]) rfl ?_
    refine j_istore (lv' := [(6, .int (kc_minutesBySessions S nm ns mu (xs (4 * t + 1)))), (0, .ref b), (1, .ref (al 0 0)), (2, .ref (al 40 0)), (3, .ref (al 70 0)), (4, .ref (al 71 0)), (5, .int (nI (4 * t)))]) cx dL_law_975 (by decide) rfl (pc' := 977) rfl ?_
    refine j_aload_n (j := 3) cx dL_law_977 rfl rfl (pc' := 978) rfl ?_
    refine j_aload_n (j := 1) cx dL_law_978 rfl rfl (pc' := 979) rfl ?_
    refine j_iload (j := 6) cx dL_law_979 rfl (pc' := 981) rfl ?_
    refine j_iconst (v := 1) cx dL_law_981 (by decide) (pc' := 982) rfl ?_
    refine j_iadd cx dL_law_982 (pc' := 983) rfl ?_
    refine j_sld (n := 4 * t + 1) cx hX hb0 (nI_add (4 * t) 1) (by omega) dL_law_983 (pc' := 984) rfl ?_
    refine j_cVP (cells1 := cells + 1 + 0) (slots1 := slots + 6 + 0) (As := [.int (xs (4 * t + 1))]) (rest := []) cx (c_X3_minutesBySessions hXM1 hN.1) gL_law_X3_minutesBySessions rfl rfl rfl 1 rfl (by decide +kernel) ⟨(by show 3 + 1 ≤ _; omega), (by show 8 + (2 + 11) + 63 ≤ _; omega)⟩ hXM1.1 rfl rfl rfl rfl (Nat.le_of_ble_eq_true rfl) dL_law_984 ⟨by omega, by omega⟩ (pc' := 987) rfl rfl rfl (fun v9 al9 sh9 S9 h9 => ?_)
    obtain ⟨e1, e2, h9⟩ := h9
    subst al9 sh9
    have hm0 : ¬ km_minutesBySessions S nm ns mu (xs (4 * t + 1)) = 0 := by rw [← hp1]; exact hk0
    rw [if_neg hm0] at h9
    obtain ⟨e5, e6⟩ := h9
    subst v9 S9
    refine J.stk (st2 := [.int 0]) rfl ?_
    refine j_istore (lv' := [(7, .int 0), (6, .int (kc_minutesBySessions S nm ns mu (xs (4 * t + 1)))), (0, .ref b), (1, .ref (al 0 0)), (2, .ref (al 40 0)), (3, .ref (al 70 0)), (4, .ref (al 71 0)), (5, .int (nI (4 * t)))]) cx dL_law_987 (by decide) rfl (pc' := 989) rfl ?_
    refine j_aload_n (j := 4) cx dL_law_989 rfl rfl (pc' := 990) rfl ?_
    refine j_cVP (cells1 := cells + 1 + 0 + 0) (slots1 := slots + 6 + 0 + 0) (As := []) (rest := []) cx (c_X3_thrown hXM1) gL_law_X3_thrown rfl rfl rfl 0 rfl (by decide +kernel) ⟨(by show 0 + 1 ≤ _; omega), (by show 8 + (1 + 11) + 0 ≤ _; omega)⟩ hXM1.1 rfl rfl rfl rfl (Nat.le_of_ble_eq_true rfl) dL_law_990 ⟨by omega, by omega⟩ (pc' := 993) rfl rfl rfl (fun v9 al9 sh9 S9 h9 => ?_)
    obtain ⟨e1, e2, e3, e4⟩ := h9
    subst v9 al9 sh9 S9
    refine J.stk (st2 := [.int (kc_minutesBySessions S nm ns mu (xs (4 * t + 1)))]) (congrArg (fun z => [Value.int z]) ((sup_self _ _ _ _ _).trans hp1.symm)) ?_
    refine j_iload (j := 1) cx dL_law_993 rfl (pc' := 995) rfl ?_
    refine j_icmp_eq (tgt := 1000) cx dL_law_995 (by decide) (pc' := 998) rfl (fun _ => ?_) (fun h => absurd rfl h)
    refine j_iload (j := 1) cx dL_law_1000 rfl (pc' := 1002) rfl ?_
    refine j_if_ne (tgt := 1017) cx dL_law_1002 (by decide) (pc' := 1005) rfl (fun _ => ?_) (fun h => absurd h hk0)
    refine j_goto (tgt := 1884) cx dL_law_1017 (by decide) ?_
    refine J.sub [2, 3, 4, 5, 6, 7] rfl (J.widen (k := cells + 20) (n := slots + 300) (by omega) (by omega) (hk _ _ _ ?_))
    exact ⟨rfl, rfl, rfl, rfl, ⟨fo, hO⟩, hD, hXM, nm, ns, mu, hY, hFr, Eq.mp (congrArg (fun z => IN (sup S 40 0 0 z) nm ns mu (K + 5000)) hp1) (hp2 hk0)⟩
set_option maxHeartbeats 4000000 in
set_option maxRecDepth 100000 in
theorem l_logOut {p : Program} {l : Launch} {e : Env} {R : Room} {s : State} {m : MethodId} {args : Array Value} {below : List Frame} {meth : Method} {c : Code} {cells slots : Nat} {Q : State → Prop} {Z : yL} {al : yAl} {sh : ySh} {S : yS} {b L t K x0 m0 o0 d0 : Nat} {xs : Nat → Int32} (hl0 : l.stackTraces = false) (cx : Cx p s m args c code 9 RL wsL_law Z) (hX : va_X b L xs s s.heap) (hb0 : b < s.heap.size ∧ ¬ Z.2.2.1 ≤ b) (hR : 20 ≤ R.frames ∧ 10000 ≤ R.locals ∧ cells + 20 ≤ R.cells ∧ slots + 300 ≤ R.slots) (ht : 4 * t + 4 ≤ L ∧ L ≤ 2048) (hW : WI Z x0 m0 o0 d0 K al sh S) (hp : ∀ nm ns mu, IN S nm ns mu K → P_logOut S nm ns mu K (xs (4 * t + 1))) (hk : ∀ al9 sh9 S9, WI Z x0 m0 o0 d0 (K + 5000) al9 sh9 S9 → J p l e R s m args below meth c 9 Z (cells + 20) (slots + 300) Q al9 sh9 S9 1884 [(0, .ref b), (1, .ref x0), (2, .ref m0), (3, .ref o0), (4, .ref d0), (5, .int (nI (4 * t)))] []) : J p l e R s m args below meth c 9 Z cells slots Q al sh S 1088 [(0, .ref b), (1, .ref x0), (2, .ref m0), (3, .ref o0), (4, .ref d0), (5, .int (nI (4 * t)))] [] := by
  obtain ⟨rfl, rfl, rfl, rfl, ⟨fo, hO⟩, hD, hXM, nm, ns, mu, hY, hFr, hN⟩ := hW
  obtain ⟨hp1, hp2, hp3⟩ := hp nm ns mu hN
  refine j_aload_n (j := 1) cx dL_law_1088 rfl rfl (pc' := 1089) rfl ?_
  refine j_aload_n (j := 0) cx dL_law_1089 rfl rfl (pc' := 1090) rfl ?_
  refine j_iload (j := 5) cx dL_law_1090 rfl (pc' := 1092) rfl ?_
  refine j_iconst (v := 1) cx dL_law_1092 (by decide) (pc' := 1093) rfl ?_
  refine j_iadd cx dL_law_1093 (pc' := 1094) rfl ?_
  refine j_sld (n := 4 * t + 1) cx hX hb0 (nI_add (4 * t) 1) (by omega) dL_law_1094 (pc' := 1095) rfl ?_
  refine j_aload_n (j := 3) cx dL_law_1095 rfl rfl (pc' := 1096) rfl ?_
  refine j_cSW (cells1 := cells + 2) (slots1 := slots + 12) (As := [.ref (al 0 0), .int (xs (4 * t + 1)), .ref (al 70 0)]) (rest := []) cx (c_L_logOut hl0 hY hN.2.1.2.1 hO) gL_law_L_logOut rfl rfl rfl 3 rfl (by decide +kernel) ⟨(by show 12 + 1 ≤ _; omega), (by show 8 + (4 + 11) + 219 ≤ _; omega)⟩ rfl (Nat.le_of_ble_eq_true rfl) dL_law_1096 ⟨by omega, by omega⟩ (pc' := 1099) rfl rfl rfl (fun v9 al9 sh9 S9 h9 => ?_)
  obtain ⟨e1, e2, h9⟩ := h9
  subst v9 al9
  by_cases hk0 : kc_logOut S nm ns mu (xs (4 * t + 1)) = 0
  · rw [if_pos hk0] at h9
    obtain ⟨e3, e4⟩ := h9
    subst sh9 S9
    obtain ⟨q1, q2, q3, q4, q5⟩ := hp3 hk0
    refine J.stk (st2 := [.int 0]) (congrArg (fun z => [Value.int z]) hk0) ?_
    have hXM1 : YM Z (shp sh 70 0 (yLo Z (vp_updL fo 0 (rc_logOut S nm ns mu (xs (4 * t + 1))).toInt64))) := hXM.out (by decide)
    refine j_istore (lv' := [(6, .int 0), (0, .ref b), (1, .ref (al 0 0)), (2, .ref (al 40 0)), (3, .ref (al 70 0)), (4, .ref (al 71 0)), (5, .int (nI (4 * t)))]) cx dL_law_1099 (by decide) rfl (pc' := 1101) rfl ?_
    refine j_aload_n (j := 3) cx dL_law_1101 rfl rfl (pc' := 1102) rfl ?_
    refine j_aload_n (j := 1) cx dL_law_1102 rfl rfl (pc' := 1103) rfl ?_
    refine j_iload (j := 6) cx dL_law_1103 rfl (pc' := 1105) rfl ?_
    refine j_iconst (v := 1) cx dL_law_1105 (by decide) (pc' := 1106) rfl ?_
    refine j_iadd cx dL_law_1106 (pc' := 1107) rfl ?_
    refine j_sld (n := 4 * t + 1) cx hX hb0 (nI_add (4 * t) 1) (by omega) dL_law_1107 (pc' := 1108) rfl ?_
    refine j_cVP (cells1 := cells + 2 + 0) (slots1 := slots + 12 + 0) (As := [.int (xs (4 * t + 1))]) (rest := []) cx (c_X3_logOut hXM1 q1) gL_law_X3_logOut rfl rfl rfl 1 rfl (by decide +kernel) ⟨(by show 3 + 1 ≤ _; omega), (by show 8 + (2 + 11) + 65 ≤ _; omega)⟩ hXM1.1 rfl rfl rfl rfl (Nat.le_of_ble_eq_true rfl) dL_law_1108 ⟨by omega, by omega⟩ (pc' := 1111) rfl rfl rfl (fun v9 al9 sh9 S9 h9 => ?_)
    obtain ⟨e1, e2, h9⟩ := h9
    subst al9 sh9
    rw [if_pos q2] at h9
    obtain ⟨e5, e6⟩ := h9
    subst v9 S9
    refine J.stk (st2 := [.int (rc_logOut S nm ns mu (xs (4 * t + 1)))]) (congrArg (fun z => [Value.int z]) q3) ?_
    refine j_istore (lv' := [(7, .int (rc_logOut S nm ns mu (xs (4 * t + 1)))), (6, .int 0), (0, .ref b), (1, .ref (al 0 0)), (2, .ref (al 40 0)), (3, .ref (al 70 0)), (4, .ref (al 71 0)), (5, .int (nI (4 * t)))]) cx dL_law_1111 (by decide) rfl (pc' := 1113) rfl ?_
    refine j_aload_n (j := 4) cx dL_law_1113 rfl rfl (pc' := 1114) rfl ?_
    refine j_cVP (cells1 := cells + 2 + 0 + 0) (slots1 := slots + 12 + 0 + 0) (As := []) (rest := []) cx (c_X3_thrown hXM1) gL_law_X3_thrown rfl rfl rfl 0 rfl (by decide +kernel) ⟨(by show 0 + 1 ≤ _; omega), (by show 8 + (1 + 11) + 0 ≤ _; omega)⟩ hXM1.1 rfl rfl rfl rfl (Nat.le_of_ble_eq_true rfl) dL_law_1114 ⟨by omega, by omega⟩ (pc' := 1117) rfl rfl rfl (fun v9 al9 sh9 S9 h9 => ?_)
    obtain ⟨e1, e2, e3, e4⟩ := h9
    subst v9 al9 sh9 S9
    refine J.stk (st2 := [.int 0]) (congrArg (fun z => [Value.int z]) q4) ?_
    refine j_iload (j := 1) cx dL_law_1117 rfl (pc' := 1119) rfl ?_
    refine j_icmp_eq (tgt := 1124) cx dL_law_1119 (by decide) (pc' := 1122) rfl (fun _ => ?_) (fun h => absurd rfl h)
    refine j_iload (j := 1) cx dL_law_1124 rfl (pc' := 1126) rfl ?_
    refine j_if_ne (tgt := 1141) cx dL_law_1126 (by decide) (pc' := 1129) rfl (fun h => absurd rfl h) (fun _ => ?_)
    refine j_aload_n (j := 5) cx dL_law_1129 rfl rfl (pc' := 1130) rfl ?_
    refine j_iconst (v := 0) cx dL_law_1130 (by decide) (pc' := 1131) rfl ?_
    refine j_laldX cx (shp_self _ _ _ _) rfl rfl dL_law_1131 (pc' := 1132) rfl ?_
    refine j_iload (j := 0) cx dL_law_1132 rfl (pc' := 1134) rfl ?_
    refine j_i2l cx dL_law_1134 rfl (pc' := 1135) rfl ?_
    refine j_lcmp cx dL_law_1135 (pc' := 1136) rfl ?_
    refine j_if_eq (tgt := 1141) cx dL_law_1136 (by decide) (pc' := 1139) rfl (fun _ => ?_) (fun h => absurd (lcmp_self _) h)
    refine j_goto (tgt := 1884) cx dL_law_1141 (by decide) ?_
    refine J.sub [2, 3, 4, 5, 6, 7] rfl (J.widen (k := cells + 20) (n := slots + 300) (by omega) (by omega) (hk _ _ _ ?_))
    exact ⟨rfl, rfl, rfl, rfl, ⟨_, shp_self _ _ _ _⟩, hD.imp (fun f hf => (shp_ne _ _ (by omega)).trans hf), hXM1, nm, ns, mu, hY.out (by decide), hFr.out (by decide), q5⟩
  · rw [if_neg hk0] at h9
    obtain ⟨e3, e4⟩ := h9
    subst sh9 S9
    have hXM1 := hXM
    refine J.stk (st2 := [.int (kc_logOut S nm ns mu (xs (4 * t + 1)))]) rfl ?_
    refine j_istore (lv' := [(6, .int (kc_logOut S nm ns mu (xs (4 * t + 1)))), (0, .ref b), (1, .ref (al 0 0)), (2, .ref (al 40 0)), (3, .ref (al 70 0)), (4, .ref (al 71 0)), (5, .int (nI (4 * t)))]) cx dL_law_1099 (by decide) rfl (pc' := 1101) rfl ?_
    refine j_aload_n (j := 3) cx dL_law_1101 rfl rfl (pc' := 1102) rfl ?_
    refine j_aload_n (j := 1) cx dL_law_1102 rfl rfl (pc' := 1103) rfl ?_
    refine j_iload (j := 6) cx dL_law_1103 rfl (pc' := 1105) rfl ?_
    refine j_iconst (v := 1) cx dL_law_1105 (by decide) (pc' := 1106) rfl ?_
    refine j_iadd cx dL_law_1106 (pc' := 1107) rfl ?_
    refine j_sld (n := 4 * t + 1) cx hX hb0 (nI_add (4 * t) 1) (by omega) dL_law_1107 (pc' := 1108) rfl ?_
    refine j_cVP (cells1 := cells + 2 + 0) (slots1 := slots + 12 + 0) (As := [.int (xs (4 * t + 1))]) (rest := []) cx (c_X3_logOut hXM1 hN.1) gL_law_X3_logOut rfl rfl rfl 1 rfl (by decide +kernel) ⟨(by show 3 + 1 ≤ _; omega), (by show 8 + (2 + 11) + 65 ≤ _; omega)⟩ hXM1.1 rfl rfl rfl rfl (Nat.le_of_ble_eq_true rfl) dL_law_1108 ⟨by omega, by omega⟩ (pc' := 1111) rfl rfl rfl (fun v9 al9 sh9 S9 h9 => ?_)
    obtain ⟨e1, e2, h9⟩ := h9
    subst al9 sh9
    have hm0 : ¬ km_logOut S nm ns mu (xs (4 * t + 1)) = 0 := by rw [← hp1]; exact hk0
    rw [if_neg hm0] at h9
    obtain ⟨e5, e6⟩ := h9
    subst v9 S9
    refine J.stk (st2 := [.int 0]) rfl ?_
    refine j_istore (lv' := [(7, .int 0), (6, .int (kc_logOut S nm ns mu (xs (4 * t + 1)))), (0, .ref b), (1, .ref (al 0 0)), (2, .ref (al 40 0)), (3, .ref (al 70 0)), (4, .ref (al 71 0)), (5, .int (nI (4 * t)))]) cx dL_law_1111 (by decide) rfl (pc' := 1113) rfl ?_
    refine j_aload_n (j := 4) cx dL_law_1113 rfl rfl (pc' := 1114) rfl ?_
    refine j_cVP (cells1 := cells + 2 + 0 + 0) (slots1 := slots + 12 + 0 + 0) (As := []) (rest := []) cx (c_X3_thrown hXM1) gL_law_X3_thrown rfl rfl rfl 0 rfl (by decide +kernel) ⟨(by show 0 + 1 ≤ _; omega), (by show 8 + (1 + 11) + 0 ≤ _; omega)⟩ hXM1.1 rfl rfl rfl rfl (Nat.le_of_ble_eq_true rfl) dL_law_1114 ⟨by omega, by omega⟩ (pc' := 1117) rfl rfl rfl (fun v9 al9 sh9 S9 h9 => ?_)
    obtain ⟨e1, e2, e3, e4⟩ := h9
    subst v9 al9 sh9 S9
    refine J.stk (st2 := [.int (kc_logOut S nm ns mu (xs (4 * t + 1)))]) (congrArg (fun z => [Value.int z]) ((sup_self _ _ _ _ _).trans hp1.symm)) ?_
    refine j_iload (j := 1) cx dL_law_1117 rfl (pc' := 1119) rfl ?_
    refine j_icmp_eq (tgt := 1124) cx dL_law_1119 (by decide) (pc' := 1122) rfl (fun _ => ?_) (fun h => absurd rfl h)
    refine j_iload (j := 1) cx dL_law_1124 rfl (pc' := 1126) rfl ?_
    refine j_if_ne (tgt := 1141) cx dL_law_1126 (by decide) (pc' := 1129) rfl (fun _ => ?_) (fun h => absurd h hk0)
    refine j_goto (tgt := 1884) cx dL_law_1141 (by decide) ?_
    refine J.sub [2, 3, 4, 5, 6, 7] rfl (J.widen (k := cells + 20) (n := slots + 300) (by omega) (by omega) (hk _ _ _ ?_))
    exact ⟨rfl, rfl, rfl, rfl, ⟨fo, hO⟩, hD, hXM, nm, ns, mu, hY, hFr, Eq.mp (congrArg (fun z => IN (sup S 40 0 0 z) nm ns mu (K + 5000)) hp1) (hp2 hk0)⟩
set_option maxHeartbeats 4000000 in
set_option maxRecDepth 100000 in
theorem l_use {p : Program} {l : Launch} {e : Env} {R : Room} {s : State} {m : MethodId} {args : Array Value} {below : List Frame} {meth : Method} {c : Code} {cells slots : Nat} {Q : State → Prop} {Z : yL} {al : yAl} {sh : ySh} {S : yS} {b L t K x0 m0 o0 d0 : Nat} {xs : Nat → Int32} (hl0 : l.stackTraces = false) (cx : Cx p s m args c code 9 RL wsL_law Z) (hX : va_X b L xs s s.heap) (hb0 : b < s.heap.size ∧ ¬ Z.2.2.1 ≤ b) (hR : 20 ≤ R.frames ∧ 10000 ≤ R.locals ∧ cells + 20 ≤ R.cells ∧ slots + 300 ≤ R.slots) (ht : 4 * t + 4 ≤ L ∧ L ≤ 2048) (hW : WI Z x0 m0 o0 d0 K al sh S) (hp : ∀ nm ns mu, IN S nm ns mu K → P_use S nm ns mu K (xs (4 * t + 1))) (hk : ∀ al9 sh9 S9, WI Z x0 m0 o0 d0 (K + 5000) al9 sh9 S9 → J p l e R s m args below meth c 9 Z (cells + 20) (slots + 300) Q al9 sh9 S9 1884 [(0, .ref b), (1, .ref x0), (2, .ref m0), (3, .ref o0), (4, .ref d0), (5, .int (nI (4 * t)))] []) : J p l e R s m args below meth c 9 Z cells slots Q al sh S 1144 [(0, .ref b), (1, .ref x0), (2, .ref m0), (3, .ref o0), (4, .ref d0), (5, .int (nI (4 * t)))] [] := by
  obtain ⟨rfl, rfl, rfl, rfl, ⟨fo, hO⟩, hD, hXM, nm, ns, mu, hY, hFr, hN⟩ := hW
  obtain ⟨hp1, hp2, hp3⟩ := hp nm ns mu hN
  refine j_aload_n (j := 1) cx dL_law_1144 rfl rfl (pc' := 1145) rfl ?_
  refine j_aload_n (j := 0) cx dL_law_1145 rfl rfl (pc' := 1146) rfl ?_
  refine j_iload (j := 5) cx dL_law_1146 rfl (pc' := 1148) rfl ?_
  refine j_iconst (v := 1) cx dL_law_1148 (by decide) (pc' := 1149) rfl ?_
  refine j_iadd cx dL_law_1149 (pc' := 1150) rfl ?_
  refine j_sld (n := 4 * t + 1) cx hX hb0 (nI_add (4 * t) 1) (by omega) dL_law_1150 (pc' := 1151) rfl ?_
  refine j_aload_n (j := 3) cx dL_law_1151 rfl rfl (pc' := 1152) rfl ?_
  refine j_cSW (cells1 := cells + 2) (slots1 := slots + 12) (As := [.ref (al 0 0), .int (xs (4 * t + 1)), .ref (al 70 0)]) (rest := []) cx (c_L_use hl0 hY hN.2.1.2.1 hO) gL_law_L_use rfl rfl rfl 3 rfl (by decide +kernel) ⟨(by show 12 + 1 ≤ _; omega), (by show 8 + (4 + 11) + 220 ≤ _; omega)⟩ rfl (Nat.le_of_ble_eq_true rfl) dL_law_1152 ⟨by omega, by omega⟩ (pc' := 1155) rfl rfl rfl (fun v9 al9 sh9 S9 h9 => ?_)
  obtain ⟨e1, e2, h9⟩ := h9
  subst v9 al9
  by_cases hk0 : kc_use S nm ns mu (xs (4 * t + 1)) = 0
  · rw [if_pos hk0] at h9
    obtain ⟨e3, e4⟩ := h9
    subst sh9 S9
    obtain ⟨q1, q2, q3, q4, q5⟩ := hp3 hk0
    refine J.stk (st2 := [.int 0]) (congrArg (fun z => [Value.int z]) hk0) ?_
    have hXM1 : YM Z (shp sh 70 0 (yLo Z (vp_updL fo 0 (rc_use S nm ns mu (xs (4 * t + 1))).toInt64))) := hXM.out (by decide)
    refine j_istore (lv' := [(6, .int 0), (0, .ref b), (1, .ref (al 0 0)), (2, .ref (al 40 0)), (3, .ref (al 70 0)), (4, .ref (al 71 0)), (5, .int (nI (4 * t)))]) cx dL_law_1155 (by decide) rfl (pc' := 1157) rfl ?_
    refine j_aload_n (j := 3) cx dL_law_1157 rfl rfl (pc' := 1158) rfl ?_
    refine j_aload_n (j := 1) cx dL_law_1158 rfl rfl (pc' := 1159) rfl ?_
    refine j_iload (j := 6) cx dL_law_1159 rfl (pc' := 1161) rfl ?_
    refine j_iconst (v := 1) cx dL_law_1161 (by decide) (pc' := 1162) rfl ?_
    refine j_iadd cx dL_law_1162 (pc' := 1163) rfl ?_
    refine j_sld (n := 4 * t + 1) cx hX hb0 (nI_add (4 * t) 1) (by omega) dL_law_1163 (pc' := 1164) rfl ?_
    refine j_cVP (cells1 := cells + 2 + 0) (slots1 := slots + 12 + 0) (As := [.int (xs (4 * t + 1))]) (rest := []) cx (c_X3_use hXM1 q1) gL_law_X3_use rfl rfl rfl 1 rfl (by decide +kernel) ⟨(by show 3 + 1 ≤ _; omega), (by show 8 + (3 + 11) + 64 ≤ _; omega)⟩ hXM1.1 rfl rfl rfl rfl (Nat.le_of_ble_eq_true rfl) dL_law_1164 ⟨by omega, by omega⟩ (pc' := 1167) rfl rfl rfl (fun v9 al9 sh9 S9 h9 => ?_)
    obtain ⟨e1, e2, h9⟩ := h9
    subst al9 sh9
    rw [if_pos q2] at h9
    obtain ⟨e5, e6⟩ := h9
    subst v9 S9
    refine J.stk (st2 := [.int (rc_use S nm ns mu (xs (4 * t + 1)))]) (congrArg (fun z => [Value.int z]) q3) ?_
    refine j_istore (lv' := [(7, .int (rc_use S nm ns mu (xs (4 * t + 1)))), (6, .int 0), (0, .ref b), (1, .ref (al 0 0)), (2, .ref (al 40 0)), (3, .ref (al 70 0)), (4, .ref (al 71 0)), (5, .int (nI (4 * t)))]) cx dL_law_1167 (by decide) rfl (pc' := 1169) rfl ?_
    refine j_aload_n (j := 4) cx dL_law_1169 rfl rfl (pc' := 1170) rfl ?_
    refine j_cVP (cells1 := cells + 2 + 0 + 0) (slots1 := slots + 12 + 0 + 0) (As := []) (rest := []) cx (c_X3_thrown hXM1) gL_law_X3_thrown rfl rfl rfl 0 rfl (by decide +kernel) ⟨(by show 0 + 1 ≤ _; omega), (by show 8 + (1 + 11) + 0 ≤ _; omega)⟩ hXM1.1 rfl rfl rfl rfl (Nat.le_of_ble_eq_true rfl) dL_law_1170 ⟨by omega, by omega⟩ (pc' := 1173) rfl rfl rfl (fun v9 al9 sh9 S9 h9 => ?_)
    obtain ⟨e1, e2, e3, e4⟩ := h9
    subst v9 al9 sh9 S9
    refine J.stk (st2 := [.int 0]) (congrArg (fun z => [Value.int z]) q4) ?_
    refine j_iload (j := 1) cx dL_law_1173 rfl (pc' := 1175) rfl ?_
    refine j_icmp_eq (tgt := 1180) cx dL_law_1175 (by decide) (pc' := 1178) rfl (fun _ => ?_) (fun h => absurd rfl h)
    refine j_iload (j := 1) cx dL_law_1180 rfl (pc' := 1182) rfl ?_
    refine j_if_ne (tgt := 1197) cx dL_law_1182 (by decide) (pc' := 1185) rfl (fun h => absurd rfl h) (fun _ => ?_)
    refine j_aload_n (j := 5) cx dL_law_1185 rfl rfl (pc' := 1186) rfl ?_
    refine j_iconst (v := 0) cx dL_law_1186 (by decide) (pc' := 1187) rfl ?_
    refine j_laldX cx (shp_self _ _ _ _) rfl rfl dL_law_1187 (pc' := 1188) rfl ?_
    refine j_iload (j := 0) cx dL_law_1188 rfl (pc' := 1190) rfl ?_
    refine j_i2l cx dL_law_1190 rfl (pc' := 1191) rfl ?_
    refine j_lcmp cx dL_law_1191 (pc' := 1192) rfl ?_
    refine j_if_eq (tgt := 1197) cx dL_law_1192 (by decide) (pc' := 1195) rfl (fun _ => ?_) (fun h => absurd (lcmp_self _) h)
    refine j_goto (tgt := 1884) cx dL_law_1197 (by decide) ?_
    refine J.sub [2, 3, 4, 5, 6, 7] rfl (J.widen (k := cells + 20) (n := slots + 300) (by omega) (by omega) (hk _ _ _ ?_))
    exact ⟨rfl, rfl, rfl, rfl, ⟨_, shp_self _ _ _ _⟩, hD.imp (fun f hf => (shp_ne _ _ (by omega)).trans hf), hXM1, nm, ns, mu, hY.out (by decide), hFr.out (by decide), q5⟩
  · rw [if_neg hk0] at h9
    obtain ⟨e3, e4⟩ := h9
    subst sh9 S9
    have hXM1 := hXM
    refine J.stk (st2 := [.int (kc_use S nm ns mu (xs (4 * t + 1)))]) rfl ?_
    refine j_istore (lv' := [(6, .int (kc_use S nm ns mu (xs (4 * t + 1)))), (0, .ref b), (1, .ref (al 0 0)), (2, .ref (al 40 0)), (3, .ref (al 70 0)), (4, .ref (al 71 0)), (5, .int (nI (4 * t)))]) cx dL_law_1155 (by decide) rfl (pc' := 1157) rfl ?_
    refine j_aload_n (j := 3) cx dL_law_1157 rfl rfl (pc' := 1158) rfl ?_
    refine j_aload_n (j := 1) cx dL_law_1158 rfl rfl (pc' := 1159) rfl ?_
    refine j_iload (j := 6) cx dL_law_1159 rfl (pc' := 1161) rfl ?_
    refine j_iconst (v := 1) cx dL_law_1161 (by decide) (pc' := 1162) rfl ?_
    refine j_iadd cx dL_law_1162 (pc' := 1163) rfl ?_
    refine j_sld (n := 4 * t + 1) cx hX hb0 (nI_add (4 * t) 1) (by omega) dL_law_1163 (pc' := 1164) rfl ?_
    refine j_cVP (cells1 := cells + 2 + 0) (slots1 := slots + 12 + 0) (As := [.int (xs (4 * t + 1))]) (rest := []) cx (c_X3_use hXM1 hN.1) gL_law_X3_use rfl rfl rfl 1 rfl (by decide +kernel) ⟨(by show 3 + 1 ≤ _; omega), (by show 8 + (3 + 11) + 64 ≤ _; omega)⟩ hXM1.1 rfl rfl rfl rfl (Nat.le_of_ble_eq_true rfl) dL_law_1164 ⟨by omega, by omega⟩ (pc' := 1167) rfl rfl rfl (fun v9 al9 sh9 S9 h9 => ?_)
    obtain ⟨e1, e2, h9⟩ := h9
    subst al9 sh9
    have hm0 : ¬ km_use S nm ns mu (xs (4 * t + 1)) = 0 := by rw [← hp1]; exact hk0
    rw [if_neg hm0] at h9
    obtain ⟨e5, e6⟩ := h9
    subst v9 S9
    refine J.stk (st2 := [.int 0]) rfl ?_
    refine j_istore (lv' := [(7, .int 0), (6, .int (kc_use S nm ns mu (xs (4 * t + 1)))), (0, .ref b), (1, .ref (al 0 0)), (2, .ref (al 40 0)), (3, .ref (al 70 0)), (4, .ref (al 71 0)), (5, .int (nI (4 * t)))]) cx dL_law_1167 (by decide) rfl (pc' := 1169) rfl ?_
    refine j_aload_n (j := 4) cx dL_law_1169 rfl rfl (pc' := 1170) rfl ?_
    refine j_cVP (cells1 := cells + 2 + 0 + 0) (slots1 := slots + 12 + 0 + 0) (As := []) (rest := []) cx (c_X3_thrown hXM1) gL_law_X3_thrown rfl rfl rfl 0 rfl (by decide +kernel) ⟨(by show 0 + 1 ≤ _; omega), (by show 8 + (1 + 11) + 0 ≤ _; omega)⟩ hXM1.1 rfl rfl rfl rfl (Nat.le_of_ble_eq_true rfl) dL_law_1170 ⟨by omega, by omega⟩ (pc' := 1173) rfl rfl rfl (fun v9 al9 sh9 S9 h9 => ?_)
    obtain ⟨e1, e2, e3, e4⟩ := h9
    subst v9 al9 sh9 S9
    refine J.stk (st2 := [.int (kc_use S nm ns mu (xs (4 * t + 1)))]) (congrArg (fun z => [Value.int z]) ((sup_self _ _ _ _ _).trans hp1.symm)) ?_
    refine j_iload (j := 1) cx dL_law_1173 rfl (pc' := 1175) rfl ?_
    refine j_icmp_eq (tgt := 1180) cx dL_law_1175 (by decide) (pc' := 1178) rfl (fun _ => ?_) (fun h => absurd rfl h)
    refine j_iload (j := 1) cx dL_law_1180 rfl (pc' := 1182) rfl ?_
    refine j_if_ne (tgt := 1197) cx dL_law_1182 (by decide) (pc' := 1185) rfl (fun _ => ?_) (fun h => absurd h hk0)
    refine j_goto (tgt := 1884) cx dL_law_1197 (by decide) ?_
    refine J.sub [2, 3, 4, 5, 6, 7] rfl (J.widen (k := cells + 20) (n := slots + 300) (by omega) (by omega) (hk _ _ _ ?_))
    exact ⟨rfl, rfl, rfl, rfl, ⟨fo, hO⟩, hD, hXM, nm, ns, mu, hY, hFr, Eq.mp (congrArg (fun z => IN (sup S 40 0 0 z) nm ns mu (K + 5000)) hp1) (hp2 hk0)⟩
set_option maxHeartbeats 4000000 in
set_option maxRecDepth 100000 in
theorem l_takeOver {p : Program} {l : Launch} {e : Env} {R : Room} {s : State} {m : MethodId} {args : Array Value} {below : List Frame} {meth : Method} {c : Code} {cells slots : Nat} {Q : State → Prop} {Z : yL} {al : yAl} {sh : ySh} {S : yS} {b L t K x0 m0 o0 d0 : Nat} {xs : Nat → Int32} (hl0 : l.stackTraces = false) (cx : Cx p s m args c code 9 RL wsL_law Z) (hX : va_X b L xs s s.heap) (hb0 : b < s.heap.size ∧ ¬ Z.2.2.1 ≤ b) (hR : 20 ≤ R.frames ∧ 10000 ≤ R.locals ∧ cells + 20 ≤ R.cells ∧ slots + 300 ≤ R.slots) (ht : 4 * t + 4 ≤ L ∧ L ≤ 2048) (hW : WI Z x0 m0 o0 d0 K al sh S) (hp : ∀ nm ns mu, IN S nm ns mu K → P_takeOver S nm ns mu K (xs (4 * t + 1)) (xs (4 * t + 2))) (hk : ∀ al9 sh9 S9, WI Z x0 m0 o0 d0 (K + 5000) al9 sh9 S9 → J p l e R s m args below meth c 9 Z (cells + 20) (slots + 300) Q al9 sh9 S9 1884 [(0, .ref b), (1, .ref x0), (2, .ref m0), (3, .ref o0), (4, .ref d0), (5, .int (nI (4 * t)))] []) : J p l e R s m args below meth c 9 Z cells slots Q al sh S 1200 [(0, .ref b), (1, .ref x0), (2, .ref m0), (3, .ref o0), (4, .ref d0), (5, .int (nI (4 * t)))] [] := by
  obtain ⟨rfl, rfl, rfl, rfl, ⟨fo, hO⟩, hD, hXM, nm, ns, mu, hY, hFr, hN⟩ := hW
  obtain ⟨hp1, hp2, hp3⟩ := hp nm ns mu hN
  refine j_aload_n (j := 1) cx dL_law_1200 rfl rfl (pc' := 1201) rfl ?_
  refine j_aload_n (j := 0) cx dL_law_1201 rfl rfl (pc' := 1202) rfl ?_
  refine j_iload (j := 5) cx dL_law_1202 rfl (pc' := 1204) rfl ?_
  refine j_iconst (v := 1) cx dL_law_1204 (by decide) (pc' := 1205) rfl ?_
  refine j_iadd cx dL_law_1205 (pc' := 1206) rfl ?_
  refine j_sld (n := 4 * t + 1) cx hX hb0 (nI_add (4 * t) 1) (by omega) dL_law_1206 (pc' := 1207) rfl ?_
  refine j_aload_n (j := 0) cx dL_law_1207 rfl rfl (pc' := 1208) rfl ?_
  refine j_iload (j := 5) cx dL_law_1208 rfl (pc' := 1210) rfl ?_
  refine j_iconst (v := 2) cx dL_law_1210 (by decide) (pc' := 1211) rfl ?_
  refine j_iadd cx dL_law_1211 (pc' := 1212) rfl ?_
  refine j_sld (n := 4 * t + 2) cx hX hb0 (nI_add (4 * t) 2) (by omega) dL_law_1212 (pc' := 1213) rfl ?_
  refine j_aload_n (j := 3) cx dL_law_1213 rfl rfl (pc' := 1214) rfl ?_
  refine j_cSW (cells1 := cells + 4) (slots1 := slots + 24) (As := [.ref (al 0 0), .int (xs (4 * t + 1)), .int (xs (4 * t + 2)), .ref (al 70 0)]) (rest := []) cx (c_L_takeOver hl0 hY hN.2.1.2.1 hN.2.1.2.2.2.1 hO) gL_law_L_takeOver rfl rfl rfl 4 rfl (by decide +kernel) ⟨(by show 11 + 1 ≤ _; omega), (by show 8 + (5 + 11) + 198 ≤ _; omega)⟩ rfl (Nat.le_of_ble_eq_true rfl) dL_law_1214 ⟨by omega, by omega⟩ (pc' := 1217) rfl rfl rfl (fun v9 al9 sh9 S9 h9 => ?_)
  obtain ⟨e1, e2, h9⟩ := h9
  subst v9 al9
  by_cases hk0 : kc_takeOver S nm ns mu (xs (4 * t + 1)) (xs (4 * t + 2)) = 0
  · rw [if_pos hk0] at h9
    obtain ⟨e3, e4⟩ := h9
    subst sh9 S9
    obtain ⟨q1, q2, q3, q4, q5⟩ := hp3 hk0
    refine J.stk (st2 := [.int 0]) (congrArg (fun z => [Value.int z]) hk0) ?_
    have hXM1 : YM Z (shp sh 70 0 (yLo Z (vp_updL fo 0 (rc_takeOver S nm ns mu (xs (4 * t + 1)) (xs (4 * t + 2))).toInt64))) := hXM.out (by decide)
    refine j_istore (lv' := [(6, .int 0), (0, .ref b), (1, .ref (al 0 0)), (2, .ref (al 40 0)), (3, .ref (al 70 0)), (4, .ref (al 71 0)), (5, .int (nI (4 * t)))]) cx dL_law_1217 (by decide) rfl (pc' := 1219) rfl ?_
    refine j_aload_n (j := 3) cx dL_law_1219 rfl rfl (pc' := 1220) rfl ?_
    refine j_aload_n (j := 1) cx dL_law_1220 rfl rfl (pc' := 1221) rfl ?_
    refine j_iload (j := 6) cx dL_law_1221 rfl (pc' := 1223) rfl ?_
    refine j_iconst (v := 1) cx dL_law_1223 (by decide) (pc' := 1224) rfl ?_
    refine j_iadd cx dL_law_1224 (pc' := 1225) rfl ?_
    refine j_sld (n := 4 * t + 1) cx hX hb0 (nI_add (4 * t) 1) (by omega) dL_law_1225 (pc' := 1226) rfl ?_
    refine j_aload_n (j := 1) cx dL_law_1226 rfl rfl (pc' := 1227) rfl ?_
    refine j_iload (j := 6) cx dL_law_1227 rfl (pc' := 1229) rfl ?_
    refine j_iconst (v := 2) cx dL_law_1229 (by decide) (pc' := 1230) rfl ?_
    refine j_iadd cx dL_law_1230 (pc' := 1231) rfl ?_
    refine j_sld (n := 4 * t + 2) cx hX hb0 (nI_add (4 * t) 2) (by omega) dL_law_1231 (pc' := 1232) rfl ?_
    refine j_cVP (cells1 := cells + 4 + 0) (slots1 := slots + 24 + 0) (As := [.int (xs (4 * t + 1)), .int (xs (4 * t + 2))]) (rest := []) cx (c_X3_takeOver hXM1 q1) gL_law_X3_takeOver rfl rfl rfl 2 rfl (by decide +kernel) ⟨(by show 2 + 1 ≤ _; omega), (by show 8 + (5 + 11) + 43 ≤ _; omega)⟩ hXM1.1 rfl rfl rfl rfl (Nat.le_of_ble_eq_true rfl) dL_law_1232 ⟨by omega, by omega⟩ (pc' := 1235) rfl rfl rfl (fun v9 al9 sh9 S9 h9 => ?_)
    obtain ⟨e1, e2, h9⟩ := h9
    subst al9 sh9
    rw [if_pos q2] at h9
    obtain ⟨e5, e6⟩ := h9
    subst v9 S9
    refine J.stk (st2 := [.int (rc_takeOver S nm ns mu (xs (4 * t + 1)) (xs (4 * t + 2)))]) (congrArg (fun z => [Value.int z]) q3) ?_
    refine j_istore (lv' := [(7, .int (rc_takeOver S nm ns mu (xs (4 * t + 1)) (xs (4 * t + 2)))), (6, .int 0), (0, .ref b), (1, .ref (al 0 0)), (2, .ref (al 40 0)), (3, .ref (al 70 0)), (4, .ref (al 71 0)), (5, .int (nI (4 * t)))]) cx dL_law_1235 (by decide) rfl (pc' := 1237) rfl ?_
    refine j_aload_n (j := 4) cx dL_law_1237 rfl rfl (pc' := 1238) rfl ?_
    refine j_cVP (cells1 := cells + 4 + 0 + 0) (slots1 := slots + 24 + 0 + 0) (As := []) (rest := []) cx (c_X3_thrown hXM1) gL_law_X3_thrown rfl rfl rfl 0 rfl (by decide +kernel) ⟨(by show 0 + 1 ≤ _; omega), (by show 8 + (1 + 11) + 0 ≤ _; omega)⟩ hXM1.1 rfl rfl rfl rfl (Nat.le_of_ble_eq_true rfl) dL_law_1238 ⟨by omega, by omega⟩ (pc' := 1241) rfl rfl rfl (fun v9 al9 sh9 S9 h9 => ?_)
    obtain ⟨e1, e2, e3, e4⟩ := h9
    subst v9 al9 sh9 S9
    refine J.stk (st2 := [.int 0]) (congrArg (fun z => [Value.int z]) q4) ?_
    refine j_iload (j := 1) cx dL_law_1241 rfl (pc' := 1243) rfl ?_
    refine j_icmp_eq (tgt := 1248) cx dL_law_1243 (by decide) (pc' := 1246) rfl (fun _ => ?_) (fun h => absurd rfl h)
    refine j_iload (j := 1) cx dL_law_1248 rfl (pc' := 1250) rfl ?_
    refine j_if_ne (tgt := 1265) cx dL_law_1250 (by decide) (pc' := 1253) rfl (fun h => absurd rfl h) (fun _ => ?_)
    refine j_aload_n (j := 5) cx dL_law_1253 rfl rfl (pc' := 1254) rfl ?_
    refine j_iconst (v := 0) cx dL_law_1254 (by decide) (pc' := 1255) rfl ?_
    refine j_laldX cx (shp_self _ _ _ _) rfl rfl dL_law_1255 (pc' := 1256) rfl ?_
    refine j_iload (j := 0) cx dL_law_1256 rfl (pc' := 1258) rfl ?_
    refine j_i2l cx dL_law_1258 rfl (pc' := 1259) rfl ?_
    refine j_lcmp cx dL_law_1259 (pc' := 1260) rfl ?_
    refine j_if_eq (tgt := 1265) cx dL_law_1260 (by decide) (pc' := 1263) rfl (fun _ => ?_) (fun h => absurd (lcmp_self _) h)
    refine j_goto (tgt := 1884) cx dL_law_1265 (by decide) ?_
    refine J.sub [2, 3, 4, 5, 6, 7] rfl (J.widen (k := cells + 20) (n := slots + 300) (by omega) (by omega) (hk _ _ _ ?_))
    exact ⟨rfl, rfl, rfl, rfl, ⟨_, shp_self _ _ _ _⟩, hD.imp (fun f hf => (shp_ne _ _ (by omega)).trans hf), hXM1, nm, ns, mu, hY.out (by decide), hFr.out (by decide), q5⟩
  · rw [if_neg hk0] at h9
    obtain ⟨e3, e4⟩ := h9
    subst sh9 S9
    have hXM1 := hXM
    refine J.stk (st2 := [.int (kc_takeOver S nm ns mu (xs (4 * t + 1)) (xs (4 * t + 2)))]) rfl ?_
    refine j_istore (lv' := [(6, .int (kc_takeOver S nm ns mu (xs (4 * t + 1)) (xs (4 * t + 2)))), (0, .ref b), (1, .ref (al 0 0)), (2, .ref (al 40 0)), (3, .ref (al 70 0)), (4, .ref (al 71 0)), (5, .int (nI (4 * t)))]) cx dL_law_1217 (by decide) rfl (pc' := 1219) rfl ?_
    refine j_aload_n (j := 3) cx dL_law_1219 rfl rfl (pc' := 1220) rfl ?_
    refine j_aload_n (j := 1) cx dL_law_1220 rfl rfl (pc' := 1221) rfl ?_
    refine j_iload (j := 6) cx dL_law_1221 rfl (pc' := 1223) rfl ?_
    refine j_iconst (v := 1) cx dL_law_1223 (by decide) (pc' := 1224) rfl ?_
    refine j_iadd cx dL_law_1224 (pc' := 1225) rfl ?_
    refine j_sld (n := 4 * t + 1) cx hX hb0 (nI_add (4 * t) 1) (by omega) dL_law_1225 (pc' := 1226) rfl ?_
    refine j_aload_n (j := 1) cx dL_law_1226 rfl rfl (pc' := 1227) rfl ?_
    refine j_iload (j := 6) cx dL_law_1227 rfl (pc' := 1229) rfl ?_
    refine j_iconst (v := 2) cx dL_law_1229 (by decide) (pc' := 1230) rfl ?_
    refine j_iadd cx dL_law_1230 (pc' := 1231) rfl ?_
    refine j_sld (n := 4 * t + 2) cx hX hb0 (nI_add (4 * t) 2) (by omega) dL_law_1231 (pc' := 1232) rfl ?_
    refine j_cVP (cells1 := cells + 4 + 0) (slots1 := slots + 24 + 0) (As := [.int (xs (4 * t + 1)), .int (xs (4 * t + 2))]) (rest := []) cx (c_X3_takeOver hXM1 hN.1) gL_law_X3_takeOver rfl rfl rfl 2 rfl (by decide +kernel) ⟨(by show 2 + 1 ≤ _; omega), (by show 8 + (5 + 11) + 43 ≤ _; omega)⟩ hXM1.1 rfl rfl rfl rfl (Nat.le_of_ble_eq_true rfl) dL_law_1232 ⟨by omega, by omega⟩ (pc' := 1235) rfl rfl rfl (fun v9 al9 sh9 S9 h9 => ?_)
    obtain ⟨e1, e2, h9⟩ := h9
    subst al9 sh9
    have hm0 : ¬ km_takeOver S nm ns mu (xs (4 * t + 1)) (xs (4 * t + 2)) = 0 := by rw [← hp1]; exact hk0
    rw [if_neg hm0] at h9
    obtain ⟨e5, e6⟩ := h9
    subst v9 S9
    refine J.stk (st2 := [.int 0]) rfl ?_
    refine j_istore (lv' := [(7, .int 0), (6, .int (kc_takeOver S nm ns mu (xs (4 * t + 1)) (xs (4 * t + 2)))), (0, .ref b), (1, .ref (al 0 0)), (2, .ref (al 40 0)), (3, .ref (al 70 0)), (4, .ref (al 71 0)), (5, .int (nI (4 * t)))]) cx dL_law_1235 (by decide) rfl (pc' := 1237) rfl ?_
    refine j_aload_n (j := 4) cx dL_law_1237 rfl rfl (pc' := 1238) rfl ?_
    refine j_cVP (cells1 := cells + 4 + 0 + 0) (slots1 := slots + 24 + 0 + 0) (As := []) (rest := []) cx (c_X3_thrown hXM1) gL_law_X3_thrown rfl rfl rfl 0 rfl (by decide +kernel) ⟨(by show 0 + 1 ≤ _; omega), (by show 8 + (1 + 11) + 0 ≤ _; omega)⟩ hXM1.1 rfl rfl rfl rfl (Nat.le_of_ble_eq_true rfl) dL_law_1238 ⟨by omega, by omega⟩ (pc' := 1241) rfl rfl rfl (fun v9 al9 sh9 S9 h9 => ?_)
    obtain ⟨e1, e2, e3, e4⟩ := h9
    subst v9 al9 sh9 S9
    refine J.stk (st2 := [.int (kc_takeOver S nm ns mu (xs (4 * t + 1)) (xs (4 * t + 2)))]) (congrArg (fun z => [Value.int z]) ((sup_self _ _ _ _ _).trans hp1.symm)) ?_
    refine j_iload (j := 1) cx dL_law_1241 rfl (pc' := 1243) rfl ?_
    refine j_icmp_eq (tgt := 1248) cx dL_law_1243 (by decide) (pc' := 1246) rfl (fun _ => ?_) (fun h => absurd rfl h)
    refine j_iload (j := 1) cx dL_law_1248 rfl (pc' := 1250) rfl ?_
    refine j_if_ne (tgt := 1265) cx dL_law_1250 (by decide) (pc' := 1253) rfl (fun _ => ?_) (fun h => absurd h hk0)
    refine j_goto (tgt := 1884) cx dL_law_1265 (by decide) ?_
    refine J.sub [2, 3, 4, 5, 6, 7] rfl (J.widen (k := cells + 20) (n := slots + 300) (by omega) (by omega) (hk _ _ _ ?_))
    exact ⟨rfl, rfl, rfl, rfl, ⟨fo, hO⟩, hD, hXM, nm, ns, mu, hY, hFr, Eq.mp (congrArg (fun z => IN (sup S 40 0 0 z) nm ns mu (K + 5000)) hp1) (hp2 hk0)⟩
set_option maxHeartbeats 4000000 in
set_option maxRecDepth 100000 in
theorem l_handBack {p : Program} {l : Launch} {e : Env} {R : Room} {s : State} {m : MethodId} {args : Array Value} {below : List Frame} {meth : Method} {c : Code} {cells slots : Nat} {Q : State → Prop} {Z : yL} {al : yAl} {sh : ySh} {S : yS} {b L t K x0 m0 o0 d0 : Nat} {xs : Nat → Int32} (hl0 : l.stackTraces = false) (cx : Cx p s m args c code 9 RL wsL_law Z) (hX : va_X b L xs s s.heap) (hb0 : b < s.heap.size ∧ ¬ Z.2.2.1 ≤ b) (hR : 20 ≤ R.frames ∧ 10000 ≤ R.locals ∧ cells + 20 ≤ R.cells ∧ slots + 300 ≤ R.slots) (ht : 4 * t + 4 ≤ L ∧ L ≤ 2048) (hW : WI Z x0 m0 o0 d0 K al sh S) (hp : ∀ nm ns mu, IN S nm ns mu K → P_handBack S nm ns mu K (xs (4 * t + 1))) (hk : ∀ al9 sh9 S9, WI Z x0 m0 o0 d0 (K + 5000) al9 sh9 S9 → J p l e R s m args below meth c 9 Z (cells + 20) (slots + 300) Q al9 sh9 S9 1884 [(0, .ref b), (1, .ref x0), (2, .ref m0), (3, .ref o0), (4, .ref d0), (5, .int (nI (4 * t)))] []) : J p l e R s m args below meth c 9 Z cells slots Q al sh S 1268 [(0, .ref b), (1, .ref x0), (2, .ref m0), (3, .ref o0), (4, .ref d0), (5, .int (nI (4 * t)))] [] := by
  obtain ⟨rfl, rfl, rfl, rfl, ⟨fo, hO⟩, hD, hXM, nm, ns, mu, hY, hFr, hN⟩ := hW
  obtain ⟨hp1, hp2, hp3⟩ := hp nm ns mu hN
  refine j_aload_n (j := 1) cx dL_law_1268 rfl rfl (pc' := 1269) rfl ?_
  refine j_aload_n (j := 0) cx dL_law_1269 rfl rfl (pc' := 1270) rfl ?_
  refine j_iload (j := 5) cx dL_law_1270 rfl (pc' := 1272) rfl ?_
  refine j_iconst (v := 1) cx dL_law_1272 (by decide) (pc' := 1273) rfl ?_
  refine j_iadd cx dL_law_1273 (pc' := 1274) rfl ?_
  refine j_sld (n := 4 * t + 1) cx hX hb0 (nI_add (4 * t) 1) (by omega) dL_law_1274 (pc' := 1275) rfl ?_
  refine j_aload_n (j := 3) cx dL_law_1275 rfl rfl (pc' := 1276) rfl ?_
  refine j_cSW (cells1 := cells + 3) (slots1 := slots + 18) (As := [.ref (al 0 0), .int (xs (4 * t + 1)), .ref (al 70 0)]) (rest := []) cx (c_L_handBack hl0 hY hN.2.1.2.1 hO) gL_law_L_handBack rfl rfl rfl 3 rfl (by decide +kernel) ⟨(by show 12 + 1 ≤ _; omega), (by show 8 + (4 + 11) + 219 ≤ _; omega)⟩ rfl (Nat.le_of_ble_eq_true rfl) dL_law_1276 ⟨by omega, by omega⟩ (pc' := 1279) rfl rfl rfl (fun v9 al9 sh9 S9 h9 => ?_)
  obtain ⟨e1, e2, h9⟩ := h9
  subst v9 al9
  by_cases hk0 : kc_handBack S nm ns mu (xs (4 * t + 1)) = 0
  · rw [if_pos hk0] at h9
    obtain ⟨e3, e4⟩ := h9
    subst sh9 S9
    obtain ⟨q1, q2, q3, q4, q5⟩ := hp3 hk0
    refine J.stk (st2 := [.int 0]) (congrArg (fun z => [Value.int z]) hk0) ?_
    have hXM1 : YM Z (shp sh 70 0 (yLo Z (vp_updL fo 0 (rc_handBack S nm ns mu (xs (4 * t + 1))).toInt64))) := hXM.out (by decide)
    refine j_istore (lv' := [(6, .int 0), (0, .ref b), (1, .ref (al 0 0)), (2, .ref (al 40 0)), (3, .ref (al 70 0)), (4, .ref (al 71 0)), (5, .int (nI (4 * t)))]) cx dL_law_1279 (by decide) rfl (pc' := 1281) rfl ?_
    refine j_aload_n (j := 3) cx dL_law_1281 rfl rfl (pc' := 1282) rfl ?_
    refine j_aload_n (j := 1) cx dL_law_1282 rfl rfl (pc' := 1283) rfl ?_
    refine j_iload (j := 6) cx dL_law_1283 rfl (pc' := 1285) rfl ?_
    refine j_iconst (v := 1) cx dL_law_1285 (by decide) (pc' := 1286) rfl ?_
    refine j_iadd cx dL_law_1286 (pc' := 1287) rfl ?_
    refine j_sld (n := 4 * t + 1) cx hX hb0 (nI_add (4 * t) 1) (by omega) dL_law_1287 (pc' := 1288) rfl ?_
    refine j_cVP (cells1 := cells + 3 + 0) (slots1 := slots + 18 + 0) (As := [.int (xs (4 * t + 1))]) (rest := []) cx (c_X3_handBack hXM1 q1) gL_law_X3_handBack rfl rfl rfl 1 rfl (by decide +kernel) ⟨(by show 3 + 1 ≤ _; omega), (by show 8 + (4 + 11) + 64 ≤ _; omega)⟩ hXM1.1 rfl rfl rfl rfl (Nat.le_of_ble_eq_true rfl) dL_law_1288 ⟨by omega, by omega⟩ (pc' := 1291) rfl rfl rfl (fun v9 al9 sh9 S9 h9 => ?_)
    obtain ⟨e1, e2, h9⟩ := h9
    subst al9 sh9
    rw [if_pos q2] at h9
    obtain ⟨e5, e6⟩ := h9
    subst v9 S9
    refine J.stk (st2 := [.int (rc_handBack S nm ns mu (xs (4 * t + 1)))]) (congrArg (fun z => [Value.int z]) q3) ?_
    refine j_istore (lv' := [(7, .int (rc_handBack S nm ns mu (xs (4 * t + 1)))), (6, .int 0), (0, .ref b), (1, .ref (al 0 0)), (2, .ref (al 40 0)), (3, .ref (al 70 0)), (4, .ref (al 71 0)), (5, .int (nI (4 * t)))]) cx dL_law_1291 (by decide) rfl (pc' := 1293) rfl ?_
    refine j_aload_n (j := 4) cx dL_law_1293 rfl rfl (pc' := 1294) rfl ?_
    refine j_cVP (cells1 := cells + 3 + 0 + 0) (slots1 := slots + 18 + 0 + 0) (As := []) (rest := []) cx (c_X3_thrown hXM1) gL_law_X3_thrown rfl rfl rfl 0 rfl (by decide +kernel) ⟨(by show 0 + 1 ≤ _; omega), (by show 8 + (1 + 11) + 0 ≤ _; omega)⟩ hXM1.1 rfl rfl rfl rfl (Nat.le_of_ble_eq_true rfl) dL_law_1294 ⟨by omega, by omega⟩ (pc' := 1297) rfl rfl rfl (fun v9 al9 sh9 S9 h9 => ?_)
    obtain ⟨e1, e2, e3, e4⟩ := h9
    subst v9 al9 sh9 S9
    refine J.stk (st2 := [.int 0]) (congrArg (fun z => [Value.int z]) q4) ?_
    refine j_iload (j := 1) cx dL_law_1297 rfl (pc' := 1299) rfl ?_
    refine j_icmp_eq (tgt := 1304) cx dL_law_1299 (by decide) (pc' := 1302) rfl (fun _ => ?_) (fun h => absurd rfl h)
    refine j_iload (j := 1) cx dL_law_1304 rfl (pc' := 1306) rfl ?_
    refine j_if_ne (tgt := 1321) cx dL_law_1306 (by decide) (pc' := 1309) rfl (fun h => absurd rfl h) (fun _ => ?_)
    refine j_aload_n (j := 5) cx dL_law_1309 rfl rfl (pc' := 1310) rfl ?_
    refine j_iconst (v := 0) cx dL_law_1310 (by decide) (pc' := 1311) rfl ?_
    refine j_laldX cx (shp_self _ _ _ _) rfl rfl dL_law_1311 (pc' := 1312) rfl ?_
    refine j_iload (j := 0) cx dL_law_1312 rfl (pc' := 1314) rfl ?_
    refine j_i2l cx dL_law_1314 rfl (pc' := 1315) rfl ?_
    refine j_lcmp cx dL_law_1315 (pc' := 1316) rfl ?_
    refine j_if_eq (tgt := 1321) cx dL_law_1316 (by decide) (pc' := 1319) rfl (fun _ => ?_) (fun h => absurd (lcmp_self _) h)
    refine j_goto (tgt := 1884) cx dL_law_1321 (by decide) ?_
    refine J.sub [2, 3, 4, 5, 6, 7] rfl (J.widen (k := cells + 20) (n := slots + 300) (by omega) (by omega) (hk _ _ _ ?_))
    exact ⟨rfl, rfl, rfl, rfl, ⟨_, shp_self _ _ _ _⟩, hD.imp (fun f hf => (shp_ne _ _ (by omega)).trans hf), hXM1, nm, ns, mu, hY.out (by decide), hFr.out (by decide), q5⟩
  · rw [if_neg hk0] at h9
    obtain ⟨e3, e4⟩ := h9
    subst sh9 S9
    have hXM1 := hXM
    refine J.stk (st2 := [.int (kc_handBack S nm ns mu (xs (4 * t + 1)))]) rfl ?_
    refine j_istore (lv' := [(6, .int (kc_handBack S nm ns mu (xs (4 * t + 1)))), (0, .ref b), (1, .ref (al 0 0)), (2, .ref (al 40 0)), (3, .ref (al 70 0)), (4, .ref (al 71 0)), (5, .int (nI (4 * t)))]) cx dL_law_1279 (by decide) rfl (pc' := 1281) rfl ?_
    refine j_aload_n (j := 3) cx dL_law_1281 rfl rfl (pc' := 1282) rfl ?_
    refine j_aload_n (j := 1) cx dL_law_1282 rfl rfl (pc' := 1283) rfl ?_
    refine j_iload (j := 6) cx dL_law_1283 rfl (pc' := 1285) rfl ?_
    refine j_iconst (v := 1) cx dL_law_1285 (by decide) (pc' := 1286) rfl ?_
    refine j_iadd cx dL_law_1286 (pc' := 1287) rfl ?_
    refine j_sld (n := 4 * t + 1) cx hX hb0 (nI_add (4 * t) 1) (by omega) dL_law_1287 (pc' := 1288) rfl ?_
    refine j_cVP (cells1 := cells + 3 + 0) (slots1 := slots + 18 + 0) (As := [.int (xs (4 * t + 1))]) (rest := []) cx (c_X3_handBack hXM1 hN.1) gL_law_X3_handBack rfl rfl rfl 1 rfl (by decide +kernel) ⟨(by show 3 + 1 ≤ _; omega), (by show 8 + (4 + 11) + 64 ≤ _; omega)⟩ hXM1.1 rfl rfl rfl rfl (Nat.le_of_ble_eq_true rfl) dL_law_1288 ⟨by omega, by omega⟩ (pc' := 1291) rfl rfl rfl (fun v9 al9 sh9 S9 h9 => ?_)
    obtain ⟨e1, e2, h9⟩ := h9
    subst al9 sh9
    have hm0 : ¬ km_handBack S nm ns mu (xs (4 * t + 1)) = 0 := by rw [← hp1]; exact hk0
    rw [if_neg hm0] at h9
    obtain ⟨e5, e6⟩ := h9
    subst v9 S9
    refine J.stk (st2 := [.int 0]) rfl ?_
    refine j_istore (lv' := [(7, .int 0), (6, .int (kc_handBack S nm ns mu (xs (4 * t + 1)))), (0, .ref b), (1, .ref (al 0 0)), (2, .ref (al 40 0)), (3, .ref (al 70 0)), (4, .ref (al 71 0)), (5, .int (nI (4 * t)))]) cx dL_law_1291 (by decide) rfl (pc' := 1293) rfl ?_
    refine j_aload_n (j := 4) cx dL_law_1293 rfl rfl (pc' := 1294) rfl ?_
    refine j_cVP (cells1 := cells + 3 + 0 + 0) (slots1 := slots + 18 + 0 + 0) (As := []) (rest := []) cx (c_X3_thrown hXM1) gL_law_X3_thrown rfl rfl rfl 0 rfl (by decide +kernel) ⟨(by show 0 + 1 ≤ _; omega), (by show 8 + (1 + 11) + 0 ≤ _; omega)⟩ hXM1.1 rfl rfl rfl rfl (Nat.le_of_ble_eq_true rfl) dL_law_1294 ⟨by omega, by omega⟩ (pc' := 1297) rfl rfl rfl (fun v9 al9 sh9 S9 h9 => ?_)
    obtain ⟨e1, e2, e3, e4⟩ := h9
    subst v9 al9 sh9 S9
    refine J.stk (st2 := [.int (kc_handBack S nm ns mu (xs (4 * t + 1)))]) (congrArg (fun z => [Value.int z]) ((sup_self _ _ _ _ _).trans hp1.symm)) ?_
    refine j_iload (j := 1) cx dL_law_1297 rfl (pc' := 1299) rfl ?_
    refine j_icmp_eq (tgt := 1304) cx dL_law_1299 (by decide) (pc' := 1302) rfl (fun _ => ?_) (fun h => absurd rfl h)
    refine j_iload (j := 1) cx dL_law_1304 rfl (pc' := 1306) rfl ?_
    refine j_if_ne (tgt := 1321) cx dL_law_1306 (by decide) (pc' := 1309) rfl (fun _ => ?_) (fun h => absurd h hk0)
    refine j_goto (tgt := 1884) cx dL_law_1321 (by decide) ?_
    refine J.sub [2, 3, 4, 5, 6, 7] rfl (J.widen (k := cells + 20) (n := slots + 300) (by omega) (by omega) (hk _ _ _ ?_))
    exact ⟨rfl, rfl, rfl, rfl, ⟨fo, hO⟩, hD, hXM, nm, ns, mu, hY, hFr, Eq.mp (congrArg (fun z => IN (sup S 40 0 0 z) nm ns mu (K + 5000)) hp1) (hp2 hk0)⟩
set_option maxHeartbeats 4000000 in
set_option maxRecDepth 100000 in
theorem l_print {p : Program} {l : Launch} {e : Env} {R : Room} {s : State} {m : MethodId} {args : Array Value} {below : List Frame} {meth : Method} {c : Code} {cells slots : Nat} {Q : State → Prop} {Z : yL} {al : yAl} {sh : ySh} {S : yS} {b L t K x0 m0 o0 d0 : Nat} {xs : Nat → Int32} (hl0 : l.stackTraces = false) (cx : Cx p s m args c code 9 RL wsL_law Z) (hX : va_X b L xs s s.heap) (hb0 : b < s.heap.size ∧ ¬ Z.2.2.1 ≤ b) (hR : 20 ≤ R.frames ∧ 10000 ≤ R.locals ∧ cells + 20 ≤ R.cells ∧ slots + 300 ≤ R.slots) (ht : 4 * t + 4 ≤ L ∧ L ≤ 2048) (hW : WI Z x0 m0 o0 d0 K al sh S) (hp : ∀ nm ns mu, IN S nm ns mu K → P_print S nm ns mu K (xs (4 * t + 1)) (xs (4 * t + 2))) (hk : ∀ al9 sh9 S9, WI Z x0 m0 o0 d0 (K + 5000) al9 sh9 S9 → J p l e R s m args below meth c 9 Z (cells + 20) (slots + 300) Q al9 sh9 S9 1884 [(0, .ref b), (1, .ref x0), (2, .ref m0), (3, .ref o0), (4, .ref d0), (5, .int (nI (4 * t)))] []) : J p l e R s m args below meth c 9 Z cells slots Q al sh S 1324 [(0, .ref b), (1, .ref x0), (2, .ref m0), (3, .ref o0), (4, .ref d0), (5, .int (nI (4 * t)))] [] := by
  obtain ⟨rfl, rfl, rfl, rfl, ⟨fo, hO⟩, hD, hXM, nm, ns, mu, hY, hFr, hN⟩ := hW
  obtain ⟨hp1, hp2, hp3⟩ := hp nm ns mu hN
  refine j_aload_n (j := 1) cx dL_law_1324 rfl rfl (pc' := 1325) rfl ?_
  refine j_aload_n (j := 0) cx dL_law_1325 rfl rfl (pc' := 1326) rfl ?_
  refine j_iload (j := 5) cx dL_law_1326 rfl (pc' := 1328) rfl ?_
  refine j_iconst (v := 1) cx dL_law_1328 (by decide) (pc' := 1329) rfl ?_
  refine j_iadd cx dL_law_1329 (pc' := 1330) rfl ?_
  refine j_sld (n := 4 * t + 1) cx hX hb0 (nI_add (4 * t) 1) (by omega) dL_law_1330 (pc' := 1331) rfl ?_
  refine j_aload_n (j := 0) cx dL_law_1331 rfl rfl (pc' := 1332) rfl ?_
  refine j_iload (j := 5) cx dL_law_1332 rfl (pc' := 1334) rfl ?_
  refine j_iconst (v := 2) cx dL_law_1334 (by decide) (pc' := 1335) rfl ?_
  refine j_iadd cx dL_law_1335 (pc' := 1336) rfl ?_
  refine j_sld (n := 4 * t + 2) cx hX hb0 (nI_add (4 * t) 2) (by omega) dL_law_1336 (pc' := 1337) rfl ?_
  refine j_aload_n (j := 3) cx dL_law_1337 rfl rfl (pc' := 1338) rfl ?_
  refine j_cSW (cells1 := cells + 4) (slots1 := slots + 24) (As := [.ref (al 0 0), .int (xs (4 * t + 1)), .int (xs (4 * t + 2)), .ref (al 70 0)]) (rest := []) cx (c_L_print hl0 hY hN.2.1.2.1 hN.2.1.2.2.1 hN.2.1.2.2.2.1 hN.2.2.1.1 hO) gL_law_L_print rfl rfl rfl 4 rfl (by decide +kernel) ⟨(by show 11 + 1 ≤ _; omega), (by show 8 + (5 + 11) + 200 ≤ _; omega)⟩ rfl (Nat.le_of_ble_eq_true rfl) dL_law_1338 ⟨by omega, by omega⟩ (pc' := 1341) rfl rfl rfl (fun v9 al9 sh9 S9 h9 => ?_)
  obtain ⟨e1, e2, h9⟩ := h9
  subst v9 al9
  by_cases hk0 : kc_print S nm ns mu (xs (4 * t + 1)) (xs (4 * t + 2)) = 0
  · rw [if_pos hk0] at h9
    obtain ⟨e3, e4⟩ := h9
    subst sh9 S9
    obtain ⟨q1, q2, q3, q4, q5⟩ := hp3 hk0
    refine J.stk (st2 := [.int 0]) (congrArg (fun z => [Value.int z]) hk0) ?_
    have hXM1 : YM Z (shp sh 70 0 (yLo Z (vp_updL fo 0 (rc_print S nm ns mu (xs (4 * t + 1)) (xs (4 * t + 2))).toInt64))) := hXM.out (by decide)
    refine j_istore (lv' := [(6, .int 0), (0, .ref b), (1, .ref (al 0 0)), (2, .ref (al 40 0)), (3, .ref (al 70 0)), (4, .ref (al 71 0)), (5, .int (nI (4 * t)))]) cx dL_law_1341 (by decide) rfl (pc' := 1343) rfl ?_
    refine j_aload_n (j := 3) cx dL_law_1343 rfl rfl (pc' := 1344) rfl ?_
    refine j_aload_n (j := 1) cx dL_law_1344 rfl rfl (pc' := 1345) rfl ?_
    refine j_iload (j := 6) cx dL_law_1345 rfl (pc' := 1347) rfl ?_
    refine j_iconst (v := 1) cx dL_law_1347 (by decide) (pc' := 1348) rfl ?_
    refine j_iadd cx dL_law_1348 (pc' := 1349) rfl ?_
    refine j_sld (n := 4 * t + 1) cx hX hb0 (nI_add (4 * t) 1) (by omega) dL_law_1349 (pc' := 1350) rfl ?_
    refine j_aload_n (j := 1) cx dL_law_1350 rfl rfl (pc' := 1351) rfl ?_
    refine j_iload (j := 6) cx dL_law_1351 rfl (pc' := 1353) rfl ?_
    refine j_iconst (v := 2) cx dL_law_1353 (by decide) (pc' := 1354) rfl ?_
    refine j_iadd cx dL_law_1354 (pc' := 1355) rfl ?_
    refine j_sld (n := 4 * t + 2) cx hX hb0 (nI_add (4 * t) 2) (by omega) dL_law_1355 (pc' := 1356) rfl ?_
    refine j_cVP (cells1 := cells + 4 + 0) (slots1 := slots + 24 + 0) (As := [.int (xs (4 * t + 1)), .int (xs (4 * t + 2))]) (rest := []) cx (c_X3_print hXM1 q1) gL_law_X3_print rfl rfl rfl 2 rfl (by decide +kernel) ⟨(by show 2 + 1 ≤ _; omega), (by show 8 + (4 + 11) + 43 ≤ _; omega)⟩ hXM1.1 rfl rfl rfl rfl (Nat.le_of_ble_eq_true rfl) dL_law_1356 ⟨by omega, by omega⟩ (pc' := 1359) rfl rfl rfl (fun v9 al9 sh9 S9 h9 => ?_)
    obtain ⟨e1, e2, h9⟩ := h9
    subst al9 sh9
    rw [if_pos q2] at h9
    obtain ⟨e5, e6⟩ := h9
    subst v9 S9
    refine J.stk (st2 := [.int (rc_print S nm ns mu (xs (4 * t + 1)) (xs (4 * t + 2)))]) (congrArg (fun z => [Value.int z]) q3) ?_
    refine j_istore (lv' := [(7, .int (rc_print S nm ns mu (xs (4 * t + 1)) (xs (4 * t + 2)))), (6, .int 0), (0, .ref b), (1, .ref (al 0 0)), (2, .ref (al 40 0)), (3, .ref (al 70 0)), (4, .ref (al 71 0)), (5, .int (nI (4 * t)))]) cx dL_law_1359 (by decide) rfl (pc' := 1361) rfl ?_
    refine j_aload_n (j := 4) cx dL_law_1361 rfl rfl (pc' := 1362) rfl ?_
    refine j_cVP (cells1 := cells + 4 + 0 + 0) (slots1 := slots + 24 + 0 + 0) (As := []) (rest := []) cx (c_X3_thrown hXM1) gL_law_X3_thrown rfl rfl rfl 0 rfl (by decide +kernel) ⟨(by show 0 + 1 ≤ _; omega), (by show 8 + (1 + 11) + 0 ≤ _; omega)⟩ hXM1.1 rfl rfl rfl rfl (Nat.le_of_ble_eq_true rfl) dL_law_1362 ⟨by omega, by omega⟩ (pc' := 1365) rfl rfl rfl (fun v9 al9 sh9 S9 h9 => ?_)
    obtain ⟨e1, e2, e3, e4⟩ := h9
    subst v9 al9 sh9 S9
    refine J.stk (st2 := [.int 0]) (congrArg (fun z => [Value.int z]) q4) ?_
    refine j_iload (j := 1) cx dL_law_1365 rfl (pc' := 1367) rfl ?_
    refine j_icmp_eq (tgt := 1372) cx dL_law_1367 (by decide) (pc' := 1370) rfl (fun _ => ?_) (fun h => absurd rfl h)
    refine j_iload (j := 1) cx dL_law_1372 rfl (pc' := 1374) rfl ?_
    refine j_if_ne (tgt := 1389) cx dL_law_1374 (by decide) (pc' := 1377) rfl (fun h => absurd rfl h) (fun _ => ?_)
    refine j_aload_n (j := 5) cx dL_law_1377 rfl rfl (pc' := 1378) rfl ?_
    refine j_iconst (v := 0) cx dL_law_1378 (by decide) (pc' := 1379) rfl ?_
    refine j_laldX cx (shp_self _ _ _ _) rfl rfl dL_law_1379 (pc' := 1380) rfl ?_
    refine j_iload (j := 0) cx dL_law_1380 rfl (pc' := 1382) rfl ?_
    refine j_i2l cx dL_law_1382 rfl (pc' := 1383) rfl ?_
    refine j_lcmp cx dL_law_1383 (pc' := 1384) rfl ?_
    refine j_if_eq (tgt := 1389) cx dL_law_1384 (by decide) (pc' := 1387) rfl (fun _ => ?_) (fun h => absurd (lcmp_self _) h)
    refine j_goto (tgt := 1884) cx dL_law_1389 (by decide) ?_
    refine J.sub [2, 3, 4, 5, 6, 7] rfl (J.widen (k := cells + 20) (n := slots + 300) (by omega) (by omega) (hk _ _ _ ?_))
    exact ⟨rfl, rfl, rfl, rfl, ⟨_, shp_self _ _ _ _⟩, hD.imp (fun f hf => (shp_ne _ _ (by omega)).trans hf), hXM1, nm, ns, mu, hY.out (by decide), hFr.out (by decide), q5⟩
  · rw [if_neg hk0] at h9
    obtain ⟨e3, e4⟩ := h9
    subst sh9 S9
    have hXM1 := hXM
    refine J.stk (st2 := [.int (kc_print S nm ns mu (xs (4 * t + 1)) (xs (4 * t + 2)))]) rfl ?_
    refine j_istore (lv' := [(6, .int (kc_print S nm ns mu (xs (4 * t + 1)) (xs (4 * t + 2)))), (0, .ref b), (1, .ref (al 0 0)), (2, .ref (al 40 0)), (3, .ref (al 70 0)), (4, .ref (al 71 0)), (5, .int (nI (4 * t)))]) cx dL_law_1341 (by decide) rfl (pc' := 1343) rfl ?_
    refine j_aload_n (j := 3) cx dL_law_1343 rfl rfl (pc' := 1344) rfl ?_
    refine j_aload_n (j := 1) cx dL_law_1344 rfl rfl (pc' := 1345) rfl ?_
    refine j_iload (j := 6) cx dL_law_1345 rfl (pc' := 1347) rfl ?_
    refine j_iconst (v := 1) cx dL_law_1347 (by decide) (pc' := 1348) rfl ?_
    refine j_iadd cx dL_law_1348 (pc' := 1349) rfl ?_
    refine j_sld (n := 4 * t + 1) cx hX hb0 (nI_add (4 * t) 1) (by omega) dL_law_1349 (pc' := 1350) rfl ?_
    refine j_aload_n (j := 1) cx dL_law_1350 rfl rfl (pc' := 1351) rfl ?_
    refine j_iload (j := 6) cx dL_law_1351 rfl (pc' := 1353) rfl ?_
    refine j_iconst (v := 2) cx dL_law_1353 (by decide) (pc' := 1354) rfl ?_
    refine j_iadd cx dL_law_1354 (pc' := 1355) rfl ?_
    refine j_sld (n := 4 * t + 2) cx hX hb0 (nI_add (4 * t) 2) (by omega) dL_law_1355 (pc' := 1356) rfl ?_
    refine j_cVP (cells1 := cells + 4 + 0) (slots1 := slots + 24 + 0) (As := [.int (xs (4 * t + 1)), .int (xs (4 * t + 2))]) (rest := []) cx (c_X3_print hXM1 hN.1) gL_law_X3_print rfl rfl rfl 2 rfl (by decide +kernel) ⟨(by show 2 + 1 ≤ _; omega), (by show 8 + (4 + 11) + 43 ≤ _; omega)⟩ hXM1.1 rfl rfl rfl rfl (Nat.le_of_ble_eq_true rfl) dL_law_1356 ⟨by omega, by omega⟩ (pc' := 1359) rfl rfl rfl (fun v9 al9 sh9 S9 h9 => ?_)
    obtain ⟨e1, e2, h9⟩ := h9
    subst al9 sh9
    have hm0 : ¬ km_print S nm ns mu (xs (4 * t + 1)) (xs (4 * t + 2)) = 0 := by rw [← hp1]; exact hk0
    rw [if_neg hm0] at h9
    obtain ⟨e5, e6⟩ := h9
    subst v9 S9
    refine J.stk (st2 := [.int 0]) rfl ?_
    refine j_istore (lv' := [(7, .int 0), (6, .int (kc_print S nm ns mu (xs (4 * t + 1)) (xs (4 * t + 2)))), (0, .ref b), (1, .ref (al 0 0)), (2, .ref (al 40 0)), (3, .ref (al 70 0)), (4, .ref (al 71 0)), (5, .int (nI (4 * t)))]) cx dL_law_1359 (by decide) rfl (pc' := 1361) rfl ?_
    refine j_aload_n (j := 4) cx dL_law_1361 rfl rfl (pc' := 1362) rfl ?_
    refine j_cVP (cells1 := cells + 4 + 0 + 0) (slots1 := slots + 24 + 0 + 0) (As := []) (rest := []) cx (c_X3_thrown hXM1) gL_law_X3_thrown rfl rfl rfl 0 rfl (by decide +kernel) ⟨(by show 0 + 1 ≤ _; omega), (by show 8 + (1 + 11) + 0 ≤ _; omega)⟩ hXM1.1 rfl rfl rfl rfl (Nat.le_of_ble_eq_true rfl) dL_law_1362 ⟨by omega, by omega⟩ (pc' := 1365) rfl rfl rfl (fun v9 al9 sh9 S9 h9 => ?_)
    obtain ⟨e1, e2, e3, e4⟩ := h9
    subst v9 al9 sh9 S9
    refine J.stk (st2 := [.int (kc_print S nm ns mu (xs (4 * t + 1)) (xs (4 * t + 2)))]) (congrArg (fun z => [Value.int z]) ((sup_self _ _ _ _ _).trans hp1.symm)) ?_
    refine j_iload (j := 1) cx dL_law_1365 rfl (pc' := 1367) rfl ?_
    refine j_icmp_eq (tgt := 1372) cx dL_law_1367 (by decide) (pc' := 1370) rfl (fun _ => ?_) (fun h => absurd rfl h)
    refine j_iload (j := 1) cx dL_law_1372 rfl (pc' := 1374) rfl ?_
    refine j_if_ne (tgt := 1389) cx dL_law_1374 (by decide) (pc' := 1377) rfl (fun _ => ?_) (fun h => absurd h hk0)
    refine j_goto (tgt := 1884) cx dL_law_1389 (by decide) ?_
    refine J.sub [2, 3, 4, 5, 6, 7] rfl (J.widen (k := cells + 20) (n := slots + 300) (by omega) (by omega) (hk _ _ _ ?_))
    exact ⟨rfl, rfl, rfl, rfl, ⟨fo, hO⟩, hD, hXM, nm, ns, mu, hY, hFr, Eq.mp (congrArg (fun z => IN (sup S 40 0 0 z) nm ns mu (K + 5000)) hp1) (hp2 hk0)⟩
set_option maxHeartbeats 4000000 in
set_option maxRecDepth 100000 in
theorem l_state {p : Program} {l : Launch} {e : Env} {R : Room} {s : State} {m : MethodId} {args : Array Value} {below : List Frame} {meth : Method} {c : Code} {cells slots : Nat} {Q : State → Prop} {Z : yL} {al : yAl} {sh : ySh} {S : yS} {b L t K x0 m0 o0 d0 : Nat} {xs : Nat → Int32} (hl0 : l.stackTraces = false) (cx : Cx p s m args c code 9 RL wsL_law Z) (hX : va_X b L xs s s.heap) (hb0 : b < s.heap.size ∧ ¬ Z.2.2.1 ≤ b) (hR : 20 ≤ R.frames ∧ 10000 ≤ R.locals ∧ cells + 20 ≤ R.cells ∧ slots + 300 ≤ R.slots) (ht : 4 * t + 4 ≤ L ∧ L ≤ 2048) (hW : WI Z x0 m0 o0 d0 K al sh S) (hp : ∀ nm ns mu, IN S nm ns mu K → P_state S nm ns mu K (xs (4 * t + 1))) (hk : ∀ al9 sh9 S9, WI Z x0 m0 o0 d0 (K + 5000) al9 sh9 S9 → J p l e R s m args below meth c 9 Z (cells + 20) (slots + 300) Q al9 sh9 S9 1884 [(0, .ref b), (1, .ref x0), (2, .ref m0), (3, .ref o0), (4, .ref d0), (5, .int (nI (4 * t)))] []) : J p l e R s m args below meth c 9 Z cells slots Q al sh S 1392 [(0, .ref b), (1, .ref x0), (2, .ref m0), (3, .ref o0), (4, .ref d0), (5, .int (nI (4 * t)))] [] := by
  obtain ⟨rfl, rfl, rfl, rfl, ⟨fo, hO⟩, hD, hXM, nm, ns, mu, hY, hFr, hN⟩ := hW
  obtain ⟨hp1, hp2, hp3⟩ := hp nm ns mu hN
  refine j_aload_n (j := 1) cx dL_law_1392 rfl rfl (pc' := 1393) rfl ?_
  refine j_aload_n (j := 0) cx dL_law_1393 rfl rfl (pc' := 1394) rfl ?_
  refine j_iload (j := 5) cx dL_law_1394 rfl (pc' := 1396) rfl ?_
  refine j_iconst (v := 1) cx dL_law_1396 (by decide) (pc' := 1397) rfl ?_
  refine j_iadd cx dL_law_1397 (pc' := 1398) rfl ?_
  refine j_sld (n := 4 * t + 1) cx hX hb0 (nI_add (4 * t) 1) (by omega) dL_law_1398 (pc' := 1399) rfl ?_
  refine j_aload_n (j := 3) cx dL_law_1399 rfl rfl (pc' := 1400) rfl ?_
  refine j_cSW (cells1 := cells + 1) (slots1 := slots + 6) (As := [.ref (al 0 0), .int (xs (4 * t + 1)), .ref (al 70 0)]) (rest := []) cx (c_L_state hl0 hY hN.2.1.2.1 hN.2.2.1.2.2 hO) gL_law_L_state rfl rfl rfl 3 rfl (by decide +kernel) ⟨(by show 11 + 1 ≤ _; omega), (by show 8 + (4 + 11) + 197 ≤ _; omega)⟩ rfl (Nat.le_of_ble_eq_true rfl) dL_law_1400 ⟨by omega, by omega⟩ (pc' := 1403) rfl rfl rfl (fun v9 al9 sh9 S9 h9 => ?_)
  obtain ⟨e1, e2, h9⟩ := h9
  subst v9 al9
  by_cases hk0 : kc_state S nm ns mu (xs (4 * t + 1)) = 0
  · rw [if_pos hk0] at h9
    obtain ⟨e3, e4⟩ := h9
    subst sh9 S9
    obtain ⟨q1, q2, q3, q4, q5⟩ := hp3 hk0
    refine J.stk (st2 := [.int 0]) (congrArg (fun z => [Value.int z]) hk0) ?_
    have hXM1 : YM Z (shp sh 70 0 (yLo Z (vp_updL fo 0 (rc_state S nm ns mu (xs (4 * t + 1))).toInt64))) := hXM.out (by decide)
    refine j_istore (lv' := [(6, .int 0), (0, .ref b), (1, .ref (al 0 0)), (2, .ref (al 40 0)), (3, .ref (al 70 0)), (4, .ref (al 71 0)), (5, .int (nI (4 * t)))]) cx dL_law_1403 (by decide) rfl (pc' := 1405) rfl ?_
    refine j_aload_n (j := 3) cx dL_law_1405 rfl rfl (pc' := 1406) rfl ?_
    refine j_aload_n (j := 1) cx dL_law_1406 rfl rfl (pc' := 1407) rfl ?_
    refine j_iload (j := 6) cx dL_law_1407 rfl (pc' := 1409) rfl ?_
    refine j_iconst (v := 1) cx dL_law_1409 (by decide) (pc' := 1410) rfl ?_
    refine j_iadd cx dL_law_1410 (pc' := 1411) rfl ?_
    refine j_sld (n := 4 * t + 1) cx hX hb0 (nI_add (4 * t) 1) (by omega) dL_law_1411 (pc' := 1412) rfl ?_
    refine j_cVP (cells1 := cells + 1 + 0) (slots1 := slots + 6 + 0) (As := [.int (xs (4 * t + 1))]) (rest := []) cx (c_X3_state hXM1 q1) gL_law_X3_state rfl rfl rfl 1 rfl (by decide +kernel) ⟨(by show 2 + 1 ≤ _; omega), (by show 8 + (2 + 11) + 43 ≤ _; omega)⟩ hXM1.1 rfl rfl rfl rfl (Nat.le_of_ble_eq_true rfl) dL_law_1412 ⟨by omega, by omega⟩ (pc' := 1415) rfl rfl rfl (fun v9 al9 sh9 S9 h9 => ?_)
    obtain ⟨e1, e2, h9⟩ := h9
    subst al9 sh9
    rw [if_pos q2] at h9
    obtain ⟨e5, e6⟩ := h9
    subst v9 S9
    refine J.stk (st2 := [.int (rc_state S nm ns mu (xs (4 * t + 1)))]) (congrArg (fun z => [Value.int z]) q3) ?_
    refine j_istore (lv' := [(7, .int (rc_state S nm ns mu (xs (4 * t + 1)))), (6, .int 0), (0, .ref b), (1, .ref (al 0 0)), (2, .ref (al 40 0)), (3, .ref (al 70 0)), (4, .ref (al 71 0)), (5, .int (nI (4 * t)))]) cx dL_law_1415 (by decide) rfl (pc' := 1417) rfl ?_
    refine j_aload_n (j := 4) cx dL_law_1417 rfl rfl (pc' := 1418) rfl ?_
    refine j_cVP (cells1 := cells + 1 + 0 + 0) (slots1 := slots + 6 + 0 + 0) (As := []) (rest := []) cx (c_X3_thrown hXM1) gL_law_X3_thrown rfl rfl rfl 0 rfl (by decide +kernel) ⟨(by show 0 + 1 ≤ _; omega), (by show 8 + (1 + 11) + 0 ≤ _; omega)⟩ hXM1.1 rfl rfl rfl rfl (Nat.le_of_ble_eq_true rfl) dL_law_1418 ⟨by omega, by omega⟩ (pc' := 1421) rfl rfl rfl (fun v9 al9 sh9 S9 h9 => ?_)
    obtain ⟨e1, e2, e3, e4⟩ := h9
    subst v9 al9 sh9 S9
    refine J.stk (st2 := [.int 0]) (congrArg (fun z => [Value.int z]) q4) ?_
    refine j_iload (j := 1) cx dL_law_1421 rfl (pc' := 1423) rfl ?_
    refine j_icmp_eq (tgt := 1428) cx dL_law_1423 (by decide) (pc' := 1426) rfl (fun _ => ?_) (fun h => absurd rfl h)
    refine j_iload (j := 1) cx dL_law_1428 rfl (pc' := 1430) rfl ?_
    refine j_if_ne (tgt := 1445) cx dL_law_1430 (by decide) (pc' := 1433) rfl (fun h => absurd rfl h) (fun _ => ?_)
    refine j_aload_n (j := 5) cx dL_law_1433 rfl rfl (pc' := 1434) rfl ?_
    refine j_iconst (v := 0) cx dL_law_1434 (by decide) (pc' := 1435) rfl ?_
    refine j_laldX cx (shp_self _ _ _ _) rfl rfl dL_law_1435 (pc' := 1436) rfl ?_
    refine j_iload (j := 0) cx dL_law_1436 rfl (pc' := 1438) rfl ?_
    refine j_i2l cx dL_law_1438 rfl (pc' := 1439) rfl ?_
    refine j_lcmp cx dL_law_1439 (pc' := 1440) rfl ?_
    refine j_if_eq (tgt := 1445) cx dL_law_1440 (by decide) (pc' := 1443) rfl (fun _ => ?_) (fun h => absurd (lcmp_self _) h)
    refine j_goto (tgt := 1884) cx dL_law_1445 (by decide) ?_
    refine J.sub [2, 3, 4, 5, 6, 7] rfl (J.widen (k := cells + 20) (n := slots + 300) (by omega) (by omega) (hk _ _ _ ?_))
    exact ⟨rfl, rfl, rfl, rfl, ⟨_, shp_self _ _ _ _⟩, hD.imp (fun f hf => (shp_ne _ _ (by omega)).trans hf), hXM1, nm, ns, mu, hY.out (by decide), hFr.out (by decide), q5⟩
  · rw [if_neg hk0] at h9
    obtain ⟨e3, e4⟩ := h9
    subst sh9 S9
    have hXM1 := hXM
    refine J.stk (st2 := [.int (kc_state S nm ns mu (xs (4 * t + 1)))]) rfl ?_
    refine j_istore (lv' := [(6, .int (kc_state S nm ns mu (xs (4 * t + 1)))), (0, .ref b), (1, .ref (al 0 0)), (2, .ref (al 40 0)), (3, .ref (al 70 0)), (4, .ref (al 71 0)), (5, .int (nI (4 * t)))]) cx dL_law_1403 (by decide) rfl (pc' := 1405) rfl ?_
    refine j_aload_n (j := 3) cx dL_law_1405 rfl rfl (pc' := 1406) rfl ?_
    refine j_aload_n (j := 1) cx dL_law_1406 rfl rfl (pc' := 1407) rfl ?_
    refine j_iload (j := 6) cx dL_law_1407 rfl (pc' := 1409) rfl ?_
    refine j_iconst (v := 1) cx dL_law_1409 (by decide) (pc' := 1410) rfl ?_
    refine j_iadd cx dL_law_1410 (pc' := 1411) rfl ?_
    refine j_sld (n := 4 * t + 1) cx hX hb0 (nI_add (4 * t) 1) (by omega) dL_law_1411 (pc' := 1412) rfl ?_
    refine j_cVP (cells1 := cells + 1 + 0) (slots1 := slots + 6 + 0) (As := [.int (xs (4 * t + 1))]) (rest := []) cx (c_X3_state hXM1 hN.1) gL_law_X3_state rfl rfl rfl 1 rfl (by decide +kernel) ⟨(by show 2 + 1 ≤ _; omega), (by show 8 + (2 + 11) + 43 ≤ _; omega)⟩ hXM1.1 rfl rfl rfl rfl (Nat.le_of_ble_eq_true rfl) dL_law_1412 ⟨by omega, by omega⟩ (pc' := 1415) rfl rfl rfl (fun v9 al9 sh9 S9 h9 => ?_)
    obtain ⟨e1, e2, h9⟩ := h9
    subst al9 sh9
    have hm0 : ¬ km_state S nm ns mu (xs (4 * t + 1)) = 0 := by rw [← hp1]; exact hk0
    rw [if_neg hm0] at h9
    obtain ⟨e5, e6⟩ := h9
    subst v9 S9
    refine J.stk (st2 := [.int 0]) rfl ?_
    refine j_istore (lv' := [(7, .int 0), (6, .int (kc_state S nm ns mu (xs (4 * t + 1)))), (0, .ref b), (1, .ref (al 0 0)), (2, .ref (al 40 0)), (3, .ref (al 70 0)), (4, .ref (al 71 0)), (5, .int (nI (4 * t)))]) cx dL_law_1415 (by decide) rfl (pc' := 1417) rfl ?_
    refine j_aload_n (j := 4) cx dL_law_1417 rfl rfl (pc' := 1418) rfl ?_
    refine j_cVP (cells1 := cells + 1 + 0 + 0) (slots1 := slots + 6 + 0 + 0) (As := []) (rest := []) cx (c_X3_thrown hXM1) gL_law_X3_thrown rfl rfl rfl 0 rfl (by decide +kernel) ⟨(by show 0 + 1 ≤ _; omega), (by show 8 + (1 + 11) + 0 ≤ _; omega)⟩ hXM1.1 rfl rfl rfl rfl (Nat.le_of_ble_eq_true rfl) dL_law_1418 ⟨by omega, by omega⟩ (pc' := 1421) rfl rfl rfl (fun v9 al9 sh9 S9 h9 => ?_)
    obtain ⟨e1, e2, e3, e4⟩ := h9
    subst v9 al9 sh9 S9
    refine J.stk (st2 := [.int (kc_state S nm ns mu (xs (4 * t + 1)))]) (congrArg (fun z => [Value.int z]) ((sup_self _ _ _ _ _).trans hp1.symm)) ?_
    refine j_iload (j := 1) cx dL_law_1421 rfl (pc' := 1423) rfl ?_
    refine j_icmp_eq (tgt := 1428) cx dL_law_1423 (by decide) (pc' := 1426) rfl (fun _ => ?_) (fun h => absurd rfl h)
    refine j_iload (j := 1) cx dL_law_1428 rfl (pc' := 1430) rfl ?_
    refine j_if_ne (tgt := 1445) cx dL_law_1430 (by decide) (pc' := 1433) rfl (fun _ => ?_) (fun h => absurd h hk0)
    refine j_goto (tgt := 1884) cx dL_law_1445 (by decide) ?_
    refine J.sub [2, 3, 4, 5, 6, 7] rfl (J.widen (k := cells + 20) (n := slots + 300) (by omega) (by omega) (hk _ _ _ ?_))
    exact ⟨rfl, rfl, rfl, rfl, ⟨fo, hO⟩, hD, hXM, nm, ns, mu, hY, hFr, Eq.mp (congrArg (fun z => IN (sup S 40 0 0 z) nm ns mu (K + 5000)) hp1) (hp2 hk0)⟩
set_option maxHeartbeats 4000000 in
set_option maxRecDepth 100000 in
theorem l_machineOf {p : Program} {l : Launch} {e : Env} {R : Room} {s : State} {m : MethodId} {args : Array Value} {below : List Frame} {meth : Method} {c : Code} {cells slots : Nat} {Q : State → Prop} {Z : yL} {al : yAl} {sh : ySh} {S : yS} {b L t K x0 m0 o0 d0 : Nat} {xs : Nat → Int32} (hl0 : l.stackTraces = false) (cx : Cx p s m args c code 9 RL wsL_law Z) (hX : va_X b L xs s s.heap) (hb0 : b < s.heap.size ∧ ¬ Z.2.2.1 ≤ b) (hR : 20 ≤ R.frames ∧ 10000 ≤ R.locals ∧ cells + 20 ≤ R.cells ∧ slots + 300 ≤ R.slots) (ht : 4 * t + 4 ≤ L ∧ L ≤ 2048) (hW : WI Z x0 m0 o0 d0 K al sh S) (hp : ∀ nm ns mu, IN S nm ns mu K → P_machineOf S nm ns mu K (xs (4 * t + 1))) (hk : ∀ al9 sh9 S9, WI Z x0 m0 o0 d0 (K + 5000) al9 sh9 S9 → J p l e R s m args below meth c 9 Z (cells + 20) (slots + 300) Q al9 sh9 S9 1884 [(0, .ref b), (1, .ref x0), (2, .ref m0), (3, .ref o0), (4, .ref d0), (5, .int (nI (4 * t)))] []) : J p l e R s m args below meth c 9 Z cells slots Q al sh S 1448 [(0, .ref b), (1, .ref x0), (2, .ref m0), (3, .ref o0), (4, .ref d0), (5, .int (nI (4 * t)))] [] := by
  obtain ⟨rfl, rfl, rfl, rfl, ⟨fo, hO⟩, hD, hXM, nm, ns, mu, hY, hFr, hN⟩ := hW
  obtain ⟨hp1, hp2, hp3⟩ := hp nm ns mu hN
  refine j_aload_n (j := 1) cx dL_law_1448 rfl rfl (pc' := 1449) rfl ?_
  refine j_aload_n (j := 0) cx dL_law_1449 rfl rfl (pc' := 1450) rfl ?_
  refine j_iload (j := 5) cx dL_law_1450 rfl (pc' := 1452) rfl ?_
  refine j_iconst (v := 1) cx dL_law_1452 (by decide) (pc' := 1453) rfl ?_
  refine j_iadd cx dL_law_1453 (pc' := 1454) rfl ?_
  refine j_sld (n := 4 * t + 1) cx hX hb0 (nI_add (4 * t) 1) (by omega) dL_law_1454 (pc' := 1455) rfl ?_
  refine j_aload_n (j := 3) cx dL_law_1455 rfl rfl (pc' := 1456) rfl ?_
  refine j_cSW (cells1 := cells + 1) (slots1 := slots + 6) (As := [.ref (al 0 0), .int (xs (4 * t + 1)), .ref (al 70 0)]) (rest := []) cx (c_L_machineOf hl0 hY hN.2.1.2.1 hO) gL_law_L_machineOf rfl rfl rfl 3 rfl (by decide +kernel) ⟨(by show 11 + 1 ≤ _; omega), (by show 8 + (4 + 11) + 196 ≤ _; omega)⟩ rfl (Nat.le_of_ble_eq_true rfl) dL_law_1456 ⟨by omega, by omega⟩ (pc' := 1459) rfl rfl rfl (fun v9 al9 sh9 S9 h9 => ?_)
  obtain ⟨e1, e2, h9⟩ := h9
  subst v9 al9
  by_cases hk0 : kc_machineOf S nm ns mu (xs (4 * t + 1)) = 0
  · rw [if_pos hk0] at h9
    obtain ⟨e3, e4⟩ := h9
    subst sh9 S9
    obtain ⟨q1, q2, q3, q4, q5⟩ := hp3 hk0
    refine J.stk (st2 := [.int 0]) (congrArg (fun z => [Value.int z]) hk0) ?_
    have hXM1 : YM Z (shp sh 70 0 (yLo Z (vp_updL fo 0 (rc_machineOf S nm ns mu (xs (4 * t + 1))).toInt64))) := hXM.out (by decide)
    refine j_istore (lv' := [(6, .int 0), (0, .ref b), (1, .ref (al 0 0)), (2, .ref (al 40 0)), (3, .ref (al 70 0)), (4, .ref (al 71 0)), (5, .int (nI (4 * t)))]) cx dL_law_1459 (by decide) rfl (pc' := 1461) rfl ?_
    refine j_aload_n (j := 3) cx dL_law_1461 rfl rfl (pc' := 1462) rfl ?_
    refine j_aload_n (j := 1) cx dL_law_1462 rfl rfl (pc' := 1463) rfl ?_
    refine j_iload (j := 6) cx dL_law_1463 rfl (pc' := 1465) rfl ?_
    refine j_iconst (v := 1) cx dL_law_1465 (by decide) (pc' := 1466) rfl ?_
    refine j_iadd cx dL_law_1466 (pc' := 1467) rfl ?_
    refine j_sld (n := 4 * t + 1) cx hX hb0 (nI_add (4 * t) 1) (by omega) dL_law_1467 (pc' := 1468) rfl ?_
    refine j_cVP (cells1 := cells + 1 + 0) (slots1 := slots + 6 + 0) (As := [.int (xs (4 * t + 1))]) (rest := []) cx (c_X3_machineOf hXM1 q1) gL_law_X3_machineOf rfl rfl rfl 1 rfl (by decide +kernel) ⟨(by show 2 + 1 ≤ _; omega), (by show 8 + (2 + 11) + 43 ≤ _; omega)⟩ hXM1.1 rfl rfl rfl rfl (Nat.le_of_ble_eq_true rfl) dL_law_1468 ⟨by omega, by omega⟩ (pc' := 1471) rfl rfl rfl (fun v9 al9 sh9 S9 h9 => ?_)
    obtain ⟨e1, e2, h9⟩ := h9
    subst al9 sh9
    rw [if_pos q2] at h9
    obtain ⟨e5, e6⟩ := h9
    subst v9 S9
    refine J.stk (st2 := [.int (rc_machineOf S nm ns mu (xs (4 * t + 1)))]) (congrArg (fun z => [Value.int z]) q3) ?_
    refine j_istore (lv' := [(7, .int (rc_machineOf S nm ns mu (xs (4 * t + 1)))), (6, .int 0), (0, .ref b), (1, .ref (al 0 0)), (2, .ref (al 40 0)), (3, .ref (al 70 0)), (4, .ref (al 71 0)), (5, .int (nI (4 * t)))]) cx dL_law_1471 (by decide) rfl (pc' := 1473) rfl ?_
    refine j_aload_n (j := 4) cx dL_law_1473 rfl rfl (pc' := 1474) rfl ?_
    refine j_cVP (cells1 := cells + 1 + 0 + 0) (slots1 := slots + 6 + 0 + 0) (As := []) (rest := []) cx (c_X3_thrown hXM1) gL_law_X3_thrown rfl rfl rfl 0 rfl (by decide +kernel) ⟨(by show 0 + 1 ≤ _; omega), (by show 8 + (1 + 11) + 0 ≤ _; omega)⟩ hXM1.1 rfl rfl rfl rfl (Nat.le_of_ble_eq_true rfl) dL_law_1474 ⟨by omega, by omega⟩ (pc' := 1477) rfl rfl rfl (fun v9 al9 sh9 S9 h9 => ?_)
    obtain ⟨e1, e2, e3, e4⟩ := h9
    subst v9 al9 sh9 S9
    refine J.stk (st2 := [.int 0]) (congrArg (fun z => [Value.int z]) q4) ?_
    refine j_iload (j := 1) cx dL_law_1477 rfl (pc' := 1479) rfl ?_
    refine j_icmp_eq (tgt := 1484) cx dL_law_1479 (by decide) (pc' := 1482) rfl (fun _ => ?_) (fun h => absurd rfl h)
    refine j_iload (j := 1) cx dL_law_1484 rfl (pc' := 1486) rfl ?_
    refine j_if_ne (tgt := 1501) cx dL_law_1486 (by decide) (pc' := 1489) rfl (fun h => absurd rfl h) (fun _ => ?_)
    refine j_aload_n (j := 5) cx dL_law_1489 rfl rfl (pc' := 1490) rfl ?_
    refine j_iconst (v := 0) cx dL_law_1490 (by decide) (pc' := 1491) rfl ?_
    refine j_laldX cx (shp_self _ _ _ _) rfl rfl dL_law_1491 (pc' := 1492) rfl ?_
    refine j_iload (j := 0) cx dL_law_1492 rfl (pc' := 1494) rfl ?_
    refine j_i2l cx dL_law_1494 rfl (pc' := 1495) rfl ?_
    refine j_lcmp cx dL_law_1495 (pc' := 1496) rfl ?_
    refine j_if_eq (tgt := 1501) cx dL_law_1496 (by decide) (pc' := 1499) rfl (fun _ => ?_) (fun h => absurd (lcmp_self _) h)
    refine j_goto (tgt := 1884) cx dL_law_1501 (by decide) ?_
    refine J.sub [2, 3, 4, 5, 6, 7] rfl (J.widen (k := cells + 20) (n := slots + 300) (by omega) (by omega) (hk _ _ _ ?_))
    exact ⟨rfl, rfl, rfl, rfl, ⟨_, shp_self _ _ _ _⟩, hD.imp (fun f hf => (shp_ne _ _ (by omega)).trans hf), hXM1, nm, ns, mu, hY.out (by decide), hFr.out (by decide), q5⟩
  · rw [if_neg hk0] at h9
    obtain ⟨e3, e4⟩ := h9
    subst sh9 S9
    have hXM1 := hXM
    refine J.stk (st2 := [.int (kc_machineOf S nm ns mu (xs (4 * t + 1)))]) rfl ?_
    refine j_istore (lv' := [(6, .int (kc_machineOf S nm ns mu (xs (4 * t + 1)))), (0, .ref b), (1, .ref (al 0 0)), (2, .ref (al 40 0)), (3, .ref (al 70 0)), (4, .ref (al 71 0)), (5, .int (nI (4 * t)))]) cx dL_law_1459 (by decide) rfl (pc' := 1461) rfl ?_
    refine j_aload_n (j := 3) cx dL_law_1461 rfl rfl (pc' := 1462) rfl ?_
    refine j_aload_n (j := 1) cx dL_law_1462 rfl rfl (pc' := 1463) rfl ?_
    refine j_iload (j := 6) cx dL_law_1463 rfl (pc' := 1465) rfl ?_
    refine j_iconst (v := 1) cx dL_law_1465 (by decide) (pc' := 1466) rfl ?_
    refine j_iadd cx dL_law_1466 (pc' := 1467) rfl ?_
    refine j_sld (n := 4 * t + 1) cx hX hb0 (nI_add (4 * t) 1) (by omega) dL_law_1467 (pc' := 1468) rfl ?_
    refine j_cVP (cells1 := cells + 1 + 0) (slots1 := slots + 6 + 0) (As := [.int (xs (4 * t + 1))]) (rest := []) cx (c_X3_machineOf hXM1 hN.1) gL_law_X3_machineOf rfl rfl rfl 1 rfl (by decide +kernel) ⟨(by show 2 + 1 ≤ _; omega), (by show 8 + (2 + 11) + 43 ≤ _; omega)⟩ hXM1.1 rfl rfl rfl rfl (Nat.le_of_ble_eq_true rfl) dL_law_1468 ⟨by omega, by omega⟩ (pc' := 1471) rfl rfl rfl (fun v9 al9 sh9 S9 h9 => ?_)
    obtain ⟨e1, e2, h9⟩ := h9
    subst al9 sh9
    have hm0 : ¬ km_machineOf S nm ns mu (xs (4 * t + 1)) = 0 := by rw [← hp1]; exact hk0
    rw [if_neg hm0] at h9
    obtain ⟨e5, e6⟩ := h9
    subst v9 S9
    refine J.stk (st2 := [.int 0]) rfl ?_
    refine j_istore (lv' := [(7, .int 0), (6, .int (kc_machineOf S nm ns mu (xs (4 * t + 1)))), (0, .ref b), (1, .ref (al 0 0)), (2, .ref (al 40 0)), (3, .ref (al 70 0)), (4, .ref (al 71 0)), (5, .int (nI (4 * t)))]) cx dL_law_1471 (by decide) rfl (pc' := 1473) rfl ?_
    refine j_aload_n (j := 4) cx dL_law_1473 rfl rfl (pc' := 1474) rfl ?_
    refine j_cVP (cells1 := cells + 1 + 0 + 0) (slots1 := slots + 6 + 0 + 0) (As := []) (rest := []) cx (c_X3_thrown hXM1) gL_law_X3_thrown rfl rfl rfl 0 rfl (by decide +kernel) ⟨(by show 0 + 1 ≤ _; omega), (by show 8 + (1 + 11) + 0 ≤ _; omega)⟩ hXM1.1 rfl rfl rfl rfl (Nat.le_of_ble_eq_true rfl) dL_law_1474 ⟨by omega, by omega⟩ (pc' := 1477) rfl rfl rfl (fun v9 al9 sh9 S9 h9 => ?_)
    obtain ⟨e1, e2, e3, e4⟩ := h9
    subst v9 al9 sh9 S9
    refine J.stk (st2 := [.int (kc_machineOf S nm ns mu (xs (4 * t + 1)))]) (congrArg (fun z => [Value.int z]) ((sup_self _ _ _ _ _).trans hp1.symm)) ?_
    refine j_iload (j := 1) cx dL_law_1477 rfl (pc' := 1479) rfl ?_
    refine j_icmp_eq (tgt := 1484) cx dL_law_1479 (by decide) (pc' := 1482) rfl (fun _ => ?_) (fun h => absurd rfl h)
    refine j_iload (j := 1) cx dL_law_1484 rfl (pc' := 1486) rfl ?_
    refine j_if_ne (tgt := 1501) cx dL_law_1486 (by decide) (pc' := 1489) rfl (fun _ => ?_) (fun h => absurd h hk0)
    refine j_goto (tgt := 1884) cx dL_law_1501 (by decide) ?_
    refine J.sub [2, 3, 4, 5, 6, 7] rfl (J.widen (k := cells + 20) (n := slots + 300) (by omega) (by omega) (hk _ _ _ ?_))
    exact ⟨rfl, rfl, rfl, rfl, ⟨fo, hO⟩, hD, hXM, nm, ns, mu, hY, hFr, Eq.mp (congrArg (fun z => IN (sup S 40 0 0 z) nm ns mu (K + 5000)) hp1) (hp2 hk0)⟩
set_option maxHeartbeats 4000000 in
set_option maxRecDepth 100000 in
theorem l_userOf {p : Program} {l : Launch} {e : Env} {R : Room} {s : State} {m : MethodId} {args : Array Value} {below : List Frame} {meth : Method} {c : Code} {cells slots : Nat} {Q : State → Prop} {Z : yL} {al : yAl} {sh : ySh} {S : yS} {b L t K x0 m0 o0 d0 : Nat} {xs : Nat → Int32} (hl0 : l.stackTraces = false) (cx : Cx p s m args c code 9 RL wsL_law Z) (hX : va_X b L xs s s.heap) (hb0 : b < s.heap.size ∧ ¬ Z.2.2.1 ≤ b) (hR : 20 ≤ R.frames ∧ 10000 ≤ R.locals ∧ cells + 20 ≤ R.cells ∧ slots + 300 ≤ R.slots) (ht : 4 * t + 4 ≤ L ∧ L ≤ 2048) (hW : WI Z x0 m0 o0 d0 K al sh S) (hp : ∀ nm ns mu, IN S nm ns mu K → P_userOf S nm ns mu K (xs (4 * t + 1))) (hk : ∀ al9 sh9 S9, WI Z x0 m0 o0 d0 (K + 5000) al9 sh9 S9 → J p l e R s m args below meth c 9 Z (cells + 20) (slots + 300) Q al9 sh9 S9 1884 [(0, .ref b), (1, .ref x0), (2, .ref m0), (3, .ref o0), (4, .ref d0), (5, .int (nI (4 * t)))] []) : J p l e R s m args below meth c 9 Z cells slots Q al sh S 1504 [(0, .ref b), (1, .ref x0), (2, .ref m0), (3, .ref o0), (4, .ref d0), (5, .int (nI (4 * t)))] [] := by
  obtain ⟨rfl, rfl, rfl, rfl, ⟨fo, hO⟩, hD, hXM, nm, ns, mu, hY, hFr, hN⟩ := hW
  obtain ⟨hp1, hp2, hp3⟩ := hp nm ns mu hN
  refine j_aload_n (j := 1) cx dL_law_1504 rfl rfl (pc' := 1505) rfl ?_
  refine j_aload_n (j := 0) cx dL_law_1505 rfl rfl (pc' := 1506) rfl ?_
  refine j_iload (j := 5) cx dL_law_1506 rfl (pc' := 1508) rfl ?_
  refine j_iconst (v := 1) cx dL_law_1508 (by decide) (pc' := 1509) rfl ?_
  refine j_iadd cx dL_law_1509 (pc' := 1510) rfl ?_
  refine j_sld (n := 4 * t + 1) cx hX hb0 (nI_add (4 * t) 1) (by omega) dL_law_1510 (pc' := 1511) rfl ?_
  refine j_aload_n (j := 3) cx dL_law_1511 rfl rfl (pc' := 1512) rfl ?_
  refine j_cSW (cells1 := cells + 1) (slots1 := slots + 6) (As := [.ref (al 0 0), .int (xs (4 * t + 1)), .ref (al 70 0)]) (rest := []) cx (c_L_userOf hl0 hY hN.2.1.2.1 hO) gL_law_L_userOf rfl rfl rfl 3 rfl (by decide +kernel) ⟨(by show 11 + 1 ≤ _; omega), (by show 8 + (4 + 11) + 196 ≤ _; omega)⟩ rfl (Nat.le_of_ble_eq_true rfl) dL_law_1512 ⟨by omega, by omega⟩ (pc' := 1515) rfl rfl rfl (fun v9 al9 sh9 S9 h9 => ?_)
  obtain ⟨e1, e2, h9⟩ := h9
  subst v9 al9
  by_cases hk0 : kc_userOf S nm ns mu (xs (4 * t + 1)) = 0
  · rw [if_pos hk0] at h9
    obtain ⟨e3, e4⟩ := h9
    subst sh9 S9
    obtain ⟨q1, q2, q3, q4, q5⟩ := hp3 hk0
    refine J.stk (st2 := [.int 0]) (congrArg (fun z => [Value.int z]) hk0) ?_
    have hXM1 : YM Z (shp sh 70 0 (yLo Z (vp_updL fo 0 (rc_userOf S nm ns mu (xs (4 * t + 1))).toInt64))) := hXM.out (by decide)
    refine j_istore (lv' := [(6, .int 0), (0, .ref b), (1, .ref (al 0 0)), (2, .ref (al 40 0)), (3, .ref (al 70 0)), (4, .ref (al 71 0)), (5, .int (nI (4 * t)))]) cx dL_law_1515 (by decide) rfl (pc' := 1517) rfl ?_
    refine j_aload_n (j := 3) cx dL_law_1517 rfl rfl (pc' := 1518) rfl ?_
    refine j_aload_n (j := 1) cx dL_law_1518 rfl rfl (pc' := 1519) rfl ?_
    refine j_iload (j := 6) cx dL_law_1519 rfl (pc' := 1521) rfl ?_
    refine j_iconst (v := 1) cx dL_law_1521 (by decide) (pc' := 1522) rfl ?_
    refine j_iadd cx dL_law_1522 (pc' := 1523) rfl ?_
    refine j_sld (n := 4 * t + 1) cx hX hb0 (nI_add (4 * t) 1) (by omega) dL_law_1523 (pc' := 1524) rfl ?_
    refine j_cVP (cells1 := cells + 1 + 0) (slots1 := slots + 6 + 0) (As := [.int (xs (4 * t + 1))]) (rest := []) cx (c_X3_userOf hXM1 q1) gL_law_X3_userOf rfl rfl rfl 1 rfl (by decide +kernel) ⟨(by show 2 + 1 ≤ _; omega), (by show 8 + (2 + 11) + 43 ≤ _; omega)⟩ hXM1.1 rfl rfl rfl rfl (Nat.le_of_ble_eq_true rfl) dL_law_1524 ⟨by omega, by omega⟩ (pc' := 1527) rfl rfl rfl (fun v9 al9 sh9 S9 h9 => ?_)
    obtain ⟨e1, e2, h9⟩ := h9
    subst al9 sh9
    rw [if_pos q2] at h9
    obtain ⟨e5, e6⟩ := h9
    subst v9 S9
    refine J.stk (st2 := [.int (rc_userOf S nm ns mu (xs (4 * t + 1)))]) (congrArg (fun z => [Value.int z]) q3) ?_
    refine j_istore (lv' := [(7, .int (rc_userOf S nm ns mu (xs (4 * t + 1)))), (6, .int 0), (0, .ref b), (1, .ref (al 0 0)), (2, .ref (al 40 0)), (3, .ref (al 70 0)), (4, .ref (al 71 0)), (5, .int (nI (4 * t)))]) cx dL_law_1527 (by decide) rfl (pc' := 1529) rfl ?_
    refine j_aload_n (j := 4) cx dL_law_1529 rfl rfl (pc' := 1530) rfl ?_
    refine j_cVP (cells1 := cells + 1 + 0 + 0) (slots1 := slots + 6 + 0 + 0) (As := []) (rest := []) cx (c_X3_thrown hXM1) gL_law_X3_thrown rfl rfl rfl 0 rfl (by decide +kernel) ⟨(by show 0 + 1 ≤ _; omega), (by show 8 + (1 + 11) + 0 ≤ _; omega)⟩ hXM1.1 rfl rfl rfl rfl (Nat.le_of_ble_eq_true rfl) dL_law_1530 ⟨by omega, by omega⟩ (pc' := 1533) rfl rfl rfl (fun v9 al9 sh9 S9 h9 => ?_)
    obtain ⟨e1, e2, e3, e4⟩ := h9
    subst v9 al9 sh9 S9
    refine J.stk (st2 := [.int 0]) (congrArg (fun z => [Value.int z]) q4) ?_
    refine j_iload (j := 1) cx dL_law_1533 rfl (pc' := 1535) rfl ?_
    refine j_icmp_eq (tgt := 1540) cx dL_law_1535 (by decide) (pc' := 1538) rfl (fun _ => ?_) (fun h => absurd rfl h)
    refine j_iload (j := 1) cx dL_law_1540 rfl (pc' := 1542) rfl ?_
    refine j_if_ne (tgt := 1557) cx dL_law_1542 (by decide) (pc' := 1545) rfl (fun h => absurd rfl h) (fun _ => ?_)
    refine j_aload_n (j := 5) cx dL_law_1545 rfl rfl (pc' := 1546) rfl ?_
    refine j_iconst (v := 0) cx dL_law_1546 (by decide) (pc' := 1547) rfl ?_
    refine j_laldX cx (shp_self _ _ _ _) rfl rfl dL_law_1547 (pc' := 1548) rfl ?_
    refine j_iload (j := 0) cx dL_law_1548 rfl (pc' := 1550) rfl ?_
    refine j_i2l cx dL_law_1550 rfl (pc' := 1551) rfl ?_
    refine j_lcmp cx dL_law_1551 (pc' := 1552) rfl ?_
    refine j_if_eq (tgt := 1557) cx dL_law_1552 (by decide) (pc' := 1555) rfl (fun _ => ?_) (fun h => absurd (lcmp_self _) h)
    refine j_goto (tgt := 1884) cx dL_law_1557 (by decide) ?_
    refine J.sub [2, 3, 4, 5, 6, 7] rfl (J.widen (k := cells + 20) (n := slots + 300) (by omega) (by omega) (hk _ _ _ ?_))
    exact ⟨rfl, rfl, rfl, rfl, ⟨_, shp_self _ _ _ _⟩, hD.imp (fun f hf => (shp_ne _ _ (by omega)).trans hf), hXM1, nm, ns, mu, hY.out (by decide), hFr.out (by decide), q5⟩
  · rw [if_neg hk0] at h9
    obtain ⟨e3, e4⟩ := h9
    subst sh9 S9
    have hXM1 := hXM
    refine J.stk (st2 := [.int (kc_userOf S nm ns mu (xs (4 * t + 1)))]) rfl ?_
    refine j_istore (lv' := [(6, .int (kc_userOf S nm ns mu (xs (4 * t + 1)))), (0, .ref b), (1, .ref (al 0 0)), (2, .ref (al 40 0)), (3, .ref (al 70 0)), (4, .ref (al 71 0)), (5, .int (nI (4 * t)))]) cx dL_law_1515 (by decide) rfl (pc' := 1517) rfl ?_
    refine j_aload_n (j := 3) cx dL_law_1517 rfl rfl (pc' := 1518) rfl ?_
    refine j_aload_n (j := 1) cx dL_law_1518 rfl rfl (pc' := 1519) rfl ?_
    refine j_iload (j := 6) cx dL_law_1519 rfl (pc' := 1521) rfl ?_
    refine j_iconst (v := 1) cx dL_law_1521 (by decide) (pc' := 1522) rfl ?_
    refine j_iadd cx dL_law_1522 (pc' := 1523) rfl ?_
    refine j_sld (n := 4 * t + 1) cx hX hb0 (nI_add (4 * t) 1) (by omega) dL_law_1523 (pc' := 1524) rfl ?_
    refine j_cVP (cells1 := cells + 1 + 0) (slots1 := slots + 6 + 0) (As := [.int (xs (4 * t + 1))]) (rest := []) cx (c_X3_userOf hXM1 hN.1) gL_law_X3_userOf rfl rfl rfl 1 rfl (by decide +kernel) ⟨(by show 2 + 1 ≤ _; omega), (by show 8 + (2 + 11) + 43 ≤ _; omega)⟩ hXM1.1 rfl rfl rfl rfl (Nat.le_of_ble_eq_true rfl) dL_law_1524 ⟨by omega, by omega⟩ (pc' := 1527) rfl rfl rfl (fun v9 al9 sh9 S9 h9 => ?_)
    obtain ⟨e1, e2, h9⟩ := h9
    subst al9 sh9
    have hm0 : ¬ km_userOf S nm ns mu (xs (4 * t + 1)) = 0 := by rw [← hp1]; exact hk0
    rw [if_neg hm0] at h9
    obtain ⟨e5, e6⟩ := h9
    subst v9 S9
    refine J.stk (st2 := [.int 0]) rfl ?_
    refine j_istore (lv' := [(7, .int 0), (6, .int (kc_userOf S nm ns mu (xs (4 * t + 1)))), (0, .ref b), (1, .ref (al 0 0)), (2, .ref (al 40 0)), (3, .ref (al 70 0)), (4, .ref (al 71 0)), (5, .int (nI (4 * t)))]) cx dL_law_1527 (by decide) rfl (pc' := 1529) rfl ?_
    refine j_aload_n (j := 4) cx dL_law_1529 rfl rfl (pc' := 1530) rfl ?_
    refine j_cVP (cells1 := cells + 1 + 0 + 0) (slots1 := slots + 6 + 0 + 0) (As := []) (rest := []) cx (c_X3_thrown hXM1) gL_law_X3_thrown rfl rfl rfl 0 rfl (by decide +kernel) ⟨(by show 0 + 1 ≤ _; omega), (by show 8 + (1 + 11) + 0 ≤ _; omega)⟩ hXM1.1 rfl rfl rfl rfl (Nat.le_of_ble_eq_true rfl) dL_law_1530 ⟨by omega, by omega⟩ (pc' := 1533) rfl rfl rfl (fun v9 al9 sh9 S9 h9 => ?_)
    obtain ⟨e1, e2, e3, e4⟩ := h9
    subst v9 al9 sh9 S9
    refine J.stk (st2 := [.int (kc_userOf S nm ns mu (xs (4 * t + 1)))]) (congrArg (fun z => [Value.int z]) ((sup_self _ _ _ _ _).trans hp1.symm)) ?_
    refine j_iload (j := 1) cx dL_law_1533 rfl (pc' := 1535) rfl ?_
    refine j_icmp_eq (tgt := 1540) cx dL_law_1535 (by decide) (pc' := 1538) rfl (fun _ => ?_) (fun h => absurd rfl h)
    refine j_iload (j := 1) cx dL_law_1540 rfl (pc' := 1542) rfl ?_
    refine j_if_ne (tgt := 1557) cx dL_law_1542 (by decide) (pc' := 1545) rfl (fun _ => ?_) (fun h => absurd h hk0)
    refine j_goto (tgt := 1884) cx dL_law_1557 (by decide) ?_
    refine J.sub [2, 3, 4, 5, 6, 7] rfl (J.widen (k := cells + 20) (n := slots + 300) (by omega) (by omega) (hk _ _ _ ?_))
    exact ⟨rfl, rfl, rfl, rfl, ⟨fo, hO⟩, hD, hXM, nm, ns, mu, hY, hFr, Eq.mp (congrArg (fun z => IN (sup S 40 0 0 z) nm ns mu (K + 5000)) hp1) (hp2 hk0)⟩
set_option maxHeartbeats 4000000 in
set_option maxRecDepth 100000 in
theorem l_charged {p : Program} {l : Launch} {e : Env} {R : Room} {s : State} {m : MethodId} {args : Array Value} {below : List Frame} {meth : Method} {c : Code} {cells slots : Nat} {Q : State → Prop} {Z : yL} {al : yAl} {sh : ySh} {S : yS} {b L t K x0 m0 o0 d0 : Nat} {xs : Nat → Int32} (hl0 : l.stackTraces = false) (cx : Cx p s m args c code 9 RL wsL_law Z) (hX : va_X b L xs s s.heap) (hb0 : b < s.heap.size ∧ ¬ Z.2.2.1 ≤ b) (hR : 20 ≤ R.frames ∧ 10000 ≤ R.locals ∧ cells + 20 ≤ R.cells ∧ slots + 300 ≤ R.slots) (ht : 4 * t + 4 ≤ L ∧ L ≤ 2048) (hW : WI Z x0 m0 o0 d0 K al sh S) (hp : ∀ nm ns mu, IN S nm ns mu K → P_charged S nm ns mu K (xs (4 * t + 1)) (xs (4 * t + 2))) (hk : ∀ al9 sh9 S9, WI Z x0 m0 o0 d0 (K + 5000) al9 sh9 S9 → J p l e R s m args below meth c 9 Z (cells + 20) (slots + 300) Q al9 sh9 S9 1884 [(0, .ref b), (1, .ref x0), (2, .ref m0), (3, .ref o0), (4, .ref d0), (5, .int (nI (4 * t)))] []) : J p l e R s m args below meth c 9 Z cells slots Q al sh S 1560 [(0, .ref b), (1, .ref x0), (2, .ref m0), (3, .ref o0), (4, .ref d0), (5, .int (nI (4 * t)))] [] := by
  obtain ⟨rfl, rfl, rfl, rfl, ⟨fo, hO⟩, hD, hXM, nm, ns, mu, hY, hFr, hN⟩ := hW
  obtain ⟨hp1, hp2, hp3⟩ := hp nm ns mu hN
  refine j_aload_n (j := 1) cx dL_law_1560 rfl rfl (pc' := 1561) rfl ?_
  refine j_aload_n (j := 0) cx dL_law_1561 rfl rfl (pc' := 1562) rfl ?_
  refine j_iload (j := 5) cx dL_law_1562 rfl (pc' := 1564) rfl ?_
  refine j_iconst (v := 1) cx dL_law_1564 (by decide) (pc' := 1565) rfl ?_
  refine j_iadd cx dL_law_1565 (pc' := 1566) rfl ?_
  refine j_sld (n := 4 * t + 1) cx hX hb0 (nI_add (4 * t) 1) (by omega) dL_law_1566 (pc' := 1567) rfl ?_
  refine j_aload_n (j := 0) cx dL_law_1567 rfl rfl (pc' := 1568) rfl ?_
  refine j_iload (j := 5) cx dL_law_1568 rfl (pc' := 1570) rfl ?_
  refine j_iconst (v := 2) cx dL_law_1570 (by decide) (pc' := 1571) rfl ?_
  refine j_iadd cx dL_law_1571 (pc' := 1572) rfl ?_
  refine j_sld (n := 4 * t + 2) cx hX hb0 (nI_add (4 * t) 2) (by omega) dL_law_1572 (pc' := 1573) rfl ?_
  refine j_aload_n (j := 3) cx dL_law_1573 rfl rfl (pc' := 1574) rfl ?_
  refine j_cSW (cells1 := cells + 2) (slots1 := slots + 12) (As := [.ref (al 0 0), .int (xs (4 * t + 1)), .int (xs (4 * t + 2)), .ref (al 70 0)]) (rest := []) cx (c_L_charged hl0 hY hN.2.1.2.1 hO) gL_law_L_charged rfl rfl rfl 4 rfl (by decide +kernel) ⟨(by show 11 + 1 ≤ _; omega), (by show 8 + (5 + 11) + 198 ≤ _; omega)⟩ rfl (Nat.le_of_ble_eq_true rfl) dL_law_1574 ⟨by omega, by omega⟩ (pc' := 1577) rfl rfl rfl (fun v9 al9 sh9 S9 h9 => ?_)
  obtain ⟨e1, e2, h9⟩ := h9
  subst v9 al9
  by_cases hk0 : kc_charged S nm ns mu (xs (4 * t + 1)) (xs (4 * t + 2)) = 0
  · rw [if_pos hk0] at h9
    obtain ⟨e3, e4⟩ := h9
    subst sh9 S9
    obtain ⟨q1, q2, q3, q4, q5⟩ := hp3 hk0
    refine J.stk (st2 := [.int 0]) (congrArg (fun z => [Value.int z]) hk0) ?_
    have hXM1 : YM Z (shp sh 70 0 (yLo Z (vp_updL fo 0 (rc_charged S nm ns mu (xs (4 * t + 1)) (xs (4 * t + 2))).toInt64))) := hXM.out (by decide)
    refine j_istore (lv' := [(6, .int 0), (0, .ref b), (1, .ref (al 0 0)), (2, .ref (al 40 0)), (3, .ref (al 70 0)), (4, .ref (al 71 0)), (5, .int (nI (4 * t)))]) cx dL_law_1577 (by decide) rfl (pc' := 1579) rfl ?_
    refine j_aload_n (j := 3) cx dL_law_1579 rfl rfl (pc' := 1580) rfl ?_
    refine j_aload_n (j := 1) cx dL_law_1580 rfl rfl (pc' := 1581) rfl ?_
    refine j_iload (j := 6) cx dL_law_1581 rfl (pc' := 1583) rfl ?_
    refine j_iconst (v := 1) cx dL_law_1583 (by decide) (pc' := 1584) rfl ?_
    refine j_iadd cx dL_law_1584 (pc' := 1585) rfl ?_
    refine j_sld (n := 4 * t + 1) cx hX hb0 (nI_add (4 * t) 1) (by omega) dL_law_1585 (pc' := 1586) rfl ?_
    refine j_aload_n (j := 1) cx dL_law_1586 rfl rfl (pc' := 1587) rfl ?_
    refine j_iload (j := 6) cx dL_law_1587 rfl (pc' := 1589) rfl ?_
    refine j_iconst (v := 2) cx dL_law_1589 (by decide) (pc' := 1590) rfl ?_
    refine j_iadd cx dL_law_1590 (pc' := 1591) rfl ?_
    refine j_sld (n := 4 * t + 2) cx hX hb0 (nI_add (4 * t) 2) (by omega) dL_law_1591 (pc' := 1592) rfl ?_
    refine j_cVP (cells1 := cells + 2 + 0) (slots1 := slots + 12 + 0) (As := [.int (xs (4 * t + 1)), .int (xs (4 * t + 2))]) (rest := []) cx (c_X3_charged hXM1 q1) gL_law_X3_charged rfl rfl rfl 2 rfl (by decide +kernel) ⟨(by show 2 + 1 ≤ _; omega), (by show 8 + (3 + 11) + 43 ≤ _; omega)⟩ hXM1.1 rfl rfl rfl rfl (Nat.le_of_ble_eq_true rfl) dL_law_1592 ⟨by omega, by omega⟩ (pc' := 1595) rfl rfl rfl (fun v9 al9 sh9 S9 h9 => ?_)
    obtain ⟨e1, e2, h9⟩ := h9
    subst al9 sh9
    rw [if_pos q2] at h9
    obtain ⟨e5, e6⟩ := h9
    subst v9 S9
    refine J.stk (st2 := [.int (rc_charged S nm ns mu (xs (4 * t + 1)) (xs (4 * t + 2)))]) (congrArg (fun z => [Value.int z]) q3) ?_
    refine j_istore (lv' := [(7, .int (rc_charged S nm ns mu (xs (4 * t + 1)) (xs (4 * t + 2)))), (6, .int 0), (0, .ref b), (1, .ref (al 0 0)), (2, .ref (al 40 0)), (3, .ref (al 70 0)), (4, .ref (al 71 0)), (5, .int (nI (4 * t)))]) cx dL_law_1595 (by decide) rfl (pc' := 1597) rfl ?_
    refine j_aload_n (j := 4) cx dL_law_1597 rfl rfl (pc' := 1598) rfl ?_
    refine j_cVP (cells1 := cells + 2 + 0 + 0) (slots1 := slots + 12 + 0 + 0) (As := []) (rest := []) cx (c_X3_thrown hXM1) gL_law_X3_thrown rfl rfl rfl 0 rfl (by decide +kernel) ⟨(by show 0 + 1 ≤ _; omega), (by show 8 + (1 + 11) + 0 ≤ _; omega)⟩ hXM1.1 rfl rfl rfl rfl (Nat.le_of_ble_eq_true rfl) dL_law_1598 ⟨by omega, by omega⟩ (pc' := 1601) rfl rfl rfl (fun v9 al9 sh9 S9 h9 => ?_)
    obtain ⟨e1, e2, e3, e4⟩ := h9
    subst v9 al9 sh9 S9
    refine J.stk (st2 := [.int 0]) (congrArg (fun z => [Value.int z]) q4) ?_
    refine j_iload (j := 1) cx dL_law_1601 rfl (pc' := 1603) rfl ?_
    refine j_icmp_eq (tgt := 1608) cx dL_law_1603 (by decide) (pc' := 1606) rfl (fun _ => ?_) (fun h => absurd rfl h)
    refine j_iload (j := 1) cx dL_law_1608 rfl (pc' := 1610) rfl ?_
    refine j_if_ne (tgt := 1625) cx dL_law_1610 (by decide) (pc' := 1613) rfl (fun h => absurd rfl h) (fun _ => ?_)
    refine j_aload_n (j := 5) cx dL_law_1613 rfl rfl (pc' := 1614) rfl ?_
    refine j_iconst (v := 0) cx dL_law_1614 (by decide) (pc' := 1615) rfl ?_
    refine j_laldX cx (shp_self _ _ _ _) rfl rfl dL_law_1615 (pc' := 1616) rfl ?_
    refine j_iload (j := 0) cx dL_law_1616 rfl (pc' := 1618) rfl ?_
    refine j_i2l cx dL_law_1618 rfl (pc' := 1619) rfl ?_
    refine j_lcmp cx dL_law_1619 (pc' := 1620) rfl ?_
    refine j_if_eq (tgt := 1625) cx dL_law_1620 (by decide) (pc' := 1623) rfl (fun _ => ?_) (fun h => absurd (lcmp_self _) h)
    refine j_goto (tgt := 1884) cx dL_law_1625 (by decide) ?_
    refine J.sub [2, 3, 4, 5, 6, 7] rfl (J.widen (k := cells + 20) (n := slots + 300) (by omega) (by omega) (hk _ _ _ ?_))
    exact ⟨rfl, rfl, rfl, rfl, ⟨_, shp_self _ _ _ _⟩, hD.imp (fun f hf => (shp_ne _ _ (by omega)).trans hf), hXM1, nm, ns, mu, hY.out (by decide), hFr.out (by decide), q5⟩
  · rw [if_neg hk0] at h9
    obtain ⟨e3, e4⟩ := h9
    subst sh9 S9
    have hXM1 := hXM
    refine J.stk (st2 := [.int (kc_charged S nm ns mu (xs (4 * t + 1)) (xs (4 * t + 2)))]) rfl ?_
    refine j_istore (lv' := [(6, .int (kc_charged S nm ns mu (xs (4 * t + 1)) (xs (4 * t + 2)))), (0, .ref b), (1, .ref (al 0 0)), (2, .ref (al 40 0)), (3, .ref (al 70 0)), (4, .ref (al 71 0)), (5, .int (nI (4 * t)))]) cx dL_law_1577 (by decide) rfl (pc' := 1579) rfl ?_
    refine j_aload_n (j := 3) cx dL_law_1579 rfl rfl (pc' := 1580) rfl ?_
    refine j_aload_n (j := 1) cx dL_law_1580 rfl rfl (pc' := 1581) rfl ?_
    refine j_iload (j := 6) cx dL_law_1581 rfl (pc' := 1583) rfl ?_
    refine j_iconst (v := 1) cx dL_law_1583 (by decide) (pc' := 1584) rfl ?_
    refine j_iadd cx dL_law_1584 (pc' := 1585) rfl ?_
    refine j_sld (n := 4 * t + 1) cx hX hb0 (nI_add (4 * t) 1) (by omega) dL_law_1585 (pc' := 1586) rfl ?_
    refine j_aload_n (j := 1) cx dL_law_1586 rfl rfl (pc' := 1587) rfl ?_
    refine j_iload (j := 6) cx dL_law_1587 rfl (pc' := 1589) rfl ?_
    refine j_iconst (v := 2) cx dL_law_1589 (by decide) (pc' := 1590) rfl ?_
    refine j_iadd cx dL_law_1590 (pc' := 1591) rfl ?_
    refine j_sld (n := 4 * t + 2) cx hX hb0 (nI_add (4 * t) 2) (by omega) dL_law_1591 (pc' := 1592) rfl ?_
    refine j_cVP (cells1 := cells + 2 + 0) (slots1 := slots + 12 + 0) (As := [.int (xs (4 * t + 1)), .int (xs (4 * t + 2))]) (rest := []) cx (c_X3_charged hXM1 hN.1) gL_law_X3_charged rfl rfl rfl 2 rfl (by decide +kernel) ⟨(by show 2 + 1 ≤ _; omega), (by show 8 + (3 + 11) + 43 ≤ _; omega)⟩ hXM1.1 rfl rfl rfl rfl (Nat.le_of_ble_eq_true rfl) dL_law_1592 ⟨by omega, by omega⟩ (pc' := 1595) rfl rfl rfl (fun v9 al9 sh9 S9 h9 => ?_)
    obtain ⟨e1, e2, h9⟩ := h9
    subst al9 sh9
    have hm0 : ¬ km_charged S nm ns mu (xs (4 * t + 1)) (xs (4 * t + 2)) = 0 := by rw [← hp1]; exact hk0
    rw [if_neg hm0] at h9
    obtain ⟨e5, e6⟩ := h9
    subst v9 S9
    refine J.stk (st2 := [.int 0]) rfl ?_
    refine j_istore (lv' := [(7, .int 0), (6, .int (kc_charged S nm ns mu (xs (4 * t + 1)) (xs (4 * t + 2)))), (0, .ref b), (1, .ref (al 0 0)), (2, .ref (al 40 0)), (3, .ref (al 70 0)), (4, .ref (al 71 0)), (5, .int (nI (4 * t)))]) cx dL_law_1595 (by decide) rfl (pc' := 1597) rfl ?_
    refine j_aload_n (j := 4) cx dL_law_1597 rfl rfl (pc' := 1598) rfl ?_
    refine j_cVP (cells1 := cells + 2 + 0 + 0) (slots1 := slots + 12 + 0 + 0) (As := []) (rest := []) cx (c_X3_thrown hXM1) gL_law_X3_thrown rfl rfl rfl 0 rfl (by decide +kernel) ⟨(by show 0 + 1 ≤ _; omega), (by show 8 + (1 + 11) + 0 ≤ _; omega)⟩ hXM1.1 rfl rfl rfl rfl (Nat.le_of_ble_eq_true rfl) dL_law_1598 ⟨by omega, by omega⟩ (pc' := 1601) rfl rfl rfl (fun v9 al9 sh9 S9 h9 => ?_)
    obtain ⟨e1, e2, e3, e4⟩ := h9
    subst v9 al9 sh9 S9
    refine J.stk (st2 := [.int (kc_charged S nm ns mu (xs (4 * t + 1)) (xs (4 * t + 2)))]) (congrArg (fun z => [Value.int z]) ((sup_self _ _ _ _ _).trans hp1.symm)) ?_
    refine j_iload (j := 1) cx dL_law_1601 rfl (pc' := 1603) rfl ?_
    refine j_icmp_eq (tgt := 1608) cx dL_law_1603 (by decide) (pc' := 1606) rfl (fun _ => ?_) (fun h => absurd rfl h)
    refine j_iload (j := 1) cx dL_law_1608 rfl (pc' := 1610) rfl ?_
    refine j_if_ne (tgt := 1625) cx dL_law_1610 (by decide) (pc' := 1613) rfl (fun _ => ?_) (fun h => absurd h hk0)
    refine j_goto (tgt := 1884) cx dL_law_1625 (by decide) ?_
    refine J.sub [2, 3, 4, 5, 6, 7] rfl (J.widen (k := cells + 20) (n := slots + 300) (by omega) (by omega) (hk _ _ _ ?_))
    exact ⟨rfl, rfl, rfl, rfl, ⟨fo, hO⟩, hD, hXM, nm, ns, mu, hY, hFr, Eq.mp (congrArg (fun z => IN (sup S 40 0 0 z) nm ns mu (K + 5000)) hp1) (hp2 hk0)⟩
set_option maxHeartbeats 4000000 in
set_option maxRecDepth 100000 in
theorem l_endsIn {p : Program} {l : Launch} {e : Env} {R : Room} {s : State} {m : MethodId} {args : Array Value} {below : List Frame} {meth : Method} {c : Code} {cells slots : Nat} {Q : State → Prop} {Z : yL} {al : yAl} {sh : ySh} {S : yS} {b L t K x0 m0 o0 d0 : Nat} {xs : Nat → Int32} (hl0 : l.stackTraces = false) (cx : Cx p s m args c code 9 RL wsL_law Z) (hX : va_X b L xs s s.heap) (hb0 : b < s.heap.size ∧ ¬ Z.2.2.1 ≤ b) (hR : 20 ≤ R.frames ∧ 10000 ≤ R.locals ∧ cells + 20 ≤ R.cells ∧ slots + 300 ≤ R.slots) (ht : 4 * t + 4 ≤ L ∧ L ≤ 2048) (hW : WI Z x0 m0 o0 d0 K al sh S) (hp : ∀ nm ns mu, IN S nm ns mu K → P_endsIn S nm ns mu K (xs (4 * t + 1))) (hk : ∀ al9 sh9 S9, WI Z x0 m0 o0 d0 (K + 5000) al9 sh9 S9 → J p l e R s m args below meth c 9 Z (cells + 20) (slots + 300) Q al9 sh9 S9 1884 [(0, .ref b), (1, .ref x0), (2, .ref m0), (3, .ref o0), (4, .ref d0), (5, .int (nI (4 * t)))] []) : J p l e R s m args below meth c 9 Z cells slots Q al sh S 1628 [(0, .ref b), (1, .ref x0), (2, .ref m0), (3, .ref o0), (4, .ref d0), (5, .int (nI (4 * t)))] [] := by
  obtain ⟨rfl, rfl, rfl, rfl, ⟨fo, hO⟩, hD, hXM, nm, ns, mu, hY, hFr, hN⟩ := hW
  obtain ⟨hp1, hp2, hp3⟩ := hp nm ns mu hN
  refine j_aload_n (j := 1) cx dL_law_1628 rfl rfl (pc' := 1629) rfl ?_
  refine j_aload_n (j := 0) cx dL_law_1629 rfl rfl (pc' := 1630) rfl ?_
  refine j_iload (j := 5) cx dL_law_1630 rfl (pc' := 1632) rfl ?_
  refine j_iconst (v := 1) cx dL_law_1632 (by decide) (pc' := 1633) rfl ?_
  refine j_iadd cx dL_law_1633 (pc' := 1634) rfl ?_
  refine j_sld (n := 4 * t + 1) cx hX hb0 (nI_add (4 * t) 1) (by omega) dL_law_1634 (pc' := 1635) rfl ?_
  refine j_aload_n (j := 3) cx dL_law_1635 rfl rfl (pc' := 1636) rfl ?_
  refine j_cSW (cells1 := cells + 2) (slots1 := slots + 12) (As := [.ref (al 0 0), .int (xs (4 * t + 1)), .ref (al 70 0)]) (rest := []) cx (c_L_endsIn hl0 hY hN.2.1.2.1 hN.2.1.2.2.2.2 hO) gL_law_L_endsIn rfl rfl rfl 3 rfl (by decide +kernel) ⟨(by show 12 + 1 ≤ _; omega), (by show 8 + (4 + 11) + 222 ≤ _; omega)⟩ rfl (Nat.le_of_ble_eq_true rfl) dL_law_1636 ⟨by omega, by omega⟩ (pc' := 1639) rfl rfl rfl (fun v9 al9 sh9 S9 h9 => ?_)
  obtain ⟨e1, e2, h9⟩ := h9
  subst v9 al9
  by_cases hk0 : kc_endsIn S nm ns mu (xs (4 * t + 1)) = 0
  · rw [if_pos hk0] at h9
    obtain ⟨e3, e4⟩ := h9
    subst sh9 S9
    obtain ⟨q1, q2, q3, q4, q5⟩ := hp3 hk0
    refine J.stk (st2 := [.int 0]) (congrArg (fun z => [Value.int z]) hk0) ?_
    have hXM1 : YM Z (shp sh 70 0 (yLo Z (vp_updL fo 0 (rc_endsIn S nm ns mu (xs (4 * t + 1))).toInt64))) := hXM.out (by decide)
    refine j_istore (lv' := [(6, .int 0), (0, .ref b), (1, .ref (al 0 0)), (2, .ref (al 40 0)), (3, .ref (al 70 0)), (4, .ref (al 71 0)), (5, .int (nI (4 * t)))]) cx dL_law_1639 (by decide) rfl (pc' := 1641) rfl ?_
    refine j_aload_n (j := 3) cx dL_law_1641 rfl rfl (pc' := 1642) rfl ?_
    refine j_aload_n (j := 1) cx dL_law_1642 rfl rfl (pc' := 1643) rfl ?_
    refine j_iload (j := 6) cx dL_law_1643 rfl (pc' := 1645) rfl ?_
    refine j_iconst (v := 1) cx dL_law_1645 (by decide) (pc' := 1646) rfl ?_
    refine j_iadd cx dL_law_1646 (pc' := 1647) rfl ?_
    refine j_sld (n := 4 * t + 1) cx hX hb0 (nI_add (4 * t) 1) (by omega) dL_law_1647 (pc' := 1648) rfl ?_
    refine j_cVP (cells1 := cells + 2 + 0) (slots1 := slots + 12 + 0) (As := [.int (xs (4 * t + 1))]) (rest := []) cx (c_X3_endsIn hXM1 q1) gL_law_X3_endsIn rfl rfl rfl 1 rfl (by decide +kernel) ⟨(by show 3 + 1 ≤ _; omega), (by show 8 + (6 + 11) + 64 ≤ _; omega)⟩ hXM1.1 rfl rfl rfl rfl (Nat.le_of_ble_eq_true rfl) dL_law_1648 ⟨by omega, by omega⟩ (pc' := 1651) rfl rfl rfl (fun v9 al9 sh9 S9 h9 => ?_)
    obtain ⟨e1, e2, h9⟩ := h9
    subst al9 sh9
    rw [if_pos q2] at h9
    obtain ⟨e5, e6⟩ := h9
    subst v9 S9
    refine J.stk (st2 := [.int (rc_endsIn S nm ns mu (xs (4 * t + 1)))]) (congrArg (fun z => [Value.int z]) q3) ?_
    refine j_istore (lv' := [(7, .int (rc_endsIn S nm ns mu (xs (4 * t + 1)))), (6, .int 0), (0, .ref b), (1, .ref (al 0 0)), (2, .ref (al 40 0)), (3, .ref (al 70 0)), (4, .ref (al 71 0)), (5, .int (nI (4 * t)))]) cx dL_law_1651 (by decide) rfl (pc' := 1653) rfl ?_
    refine j_aload_n (j := 4) cx dL_law_1653 rfl rfl (pc' := 1654) rfl ?_
    refine j_cVP (cells1 := cells + 2 + 0 + 0) (slots1 := slots + 12 + 0 + 0) (As := []) (rest := []) cx (c_X3_thrown hXM1) gL_law_X3_thrown rfl rfl rfl 0 rfl (by decide +kernel) ⟨(by show 0 + 1 ≤ _; omega), (by show 8 + (1 + 11) + 0 ≤ _; omega)⟩ hXM1.1 rfl rfl rfl rfl (Nat.le_of_ble_eq_true rfl) dL_law_1654 ⟨by omega, by omega⟩ (pc' := 1657) rfl rfl rfl (fun v9 al9 sh9 S9 h9 => ?_)
    obtain ⟨e1, e2, e3, e4⟩ := h9
    subst v9 al9 sh9 S9
    refine J.stk (st2 := [.int 0]) (congrArg (fun z => [Value.int z]) q4) ?_
    refine j_iload (j := 1) cx dL_law_1657 rfl (pc' := 1659) rfl ?_
    refine j_icmp_eq (tgt := 1664) cx dL_law_1659 (by decide) (pc' := 1662) rfl (fun _ => ?_) (fun h => absurd rfl h)
    refine j_iload (j := 1) cx dL_law_1664 rfl (pc' := 1666) rfl ?_
    refine j_if_ne (tgt := 1681) cx dL_law_1666 (by decide) (pc' := 1669) rfl (fun h => absurd rfl h) (fun _ => ?_)
    refine j_aload_n (j := 5) cx dL_law_1669 rfl rfl (pc' := 1670) rfl ?_
    refine j_iconst (v := 0) cx dL_law_1670 (by decide) (pc' := 1671) rfl ?_
    refine j_laldX cx (shp_self _ _ _ _) rfl rfl dL_law_1671 (pc' := 1672) rfl ?_
    refine j_iload (j := 0) cx dL_law_1672 rfl (pc' := 1674) rfl ?_
    refine j_i2l cx dL_law_1674 rfl (pc' := 1675) rfl ?_
    refine j_lcmp cx dL_law_1675 (pc' := 1676) rfl ?_
    refine j_if_eq (tgt := 1681) cx dL_law_1676 (by decide) (pc' := 1679) rfl (fun _ => ?_) (fun h => absurd (lcmp_self _) h)
    refine j_goto (tgt := 1884) cx dL_law_1681 (by decide) ?_
    refine J.sub [2, 3, 4, 5, 6, 7] rfl (J.widen (k := cells + 20) (n := slots + 300) (by omega) (by omega) (hk _ _ _ ?_))
    exact ⟨rfl, rfl, rfl, rfl, ⟨_, shp_self _ _ _ _⟩, hD.imp (fun f hf => (shp_ne _ _ (by omega)).trans hf), hXM1, nm, ns, mu, hY.out (by decide), hFr.out (by decide), q5⟩
  · rw [if_neg hk0] at h9
    obtain ⟨e3, e4⟩ := h9
    subst sh9 S9
    have hXM1 := hXM
    refine J.stk (st2 := [.int (kc_endsIn S nm ns mu (xs (4 * t + 1)))]) rfl ?_
    refine j_istore (lv' := [(6, .int (kc_endsIn S nm ns mu (xs (4 * t + 1)))), (0, .ref b), (1, .ref (al 0 0)), (2, .ref (al 40 0)), (3, .ref (al 70 0)), (4, .ref (al 71 0)), (5, .int (nI (4 * t)))]) cx dL_law_1639 (by decide) rfl (pc' := 1641) rfl ?_
    refine j_aload_n (j := 3) cx dL_law_1641 rfl rfl (pc' := 1642) rfl ?_
    refine j_aload_n (j := 1) cx dL_law_1642 rfl rfl (pc' := 1643) rfl ?_
    refine j_iload (j := 6) cx dL_law_1643 rfl (pc' := 1645) rfl ?_
    refine j_iconst (v := 1) cx dL_law_1645 (by decide) (pc' := 1646) rfl ?_
    refine j_iadd cx dL_law_1646 (pc' := 1647) rfl ?_
    refine j_sld (n := 4 * t + 1) cx hX hb0 (nI_add (4 * t) 1) (by omega) dL_law_1647 (pc' := 1648) rfl ?_
    refine j_cVP (cells1 := cells + 2 + 0) (slots1 := slots + 12 + 0) (As := [.int (xs (4 * t + 1))]) (rest := []) cx (c_X3_endsIn hXM1 hN.1) gL_law_X3_endsIn rfl rfl rfl 1 rfl (by decide +kernel) ⟨(by show 3 + 1 ≤ _; omega), (by show 8 + (6 + 11) + 64 ≤ _; omega)⟩ hXM1.1 rfl rfl rfl rfl (Nat.le_of_ble_eq_true rfl) dL_law_1648 ⟨by omega, by omega⟩ (pc' := 1651) rfl rfl rfl (fun v9 al9 sh9 S9 h9 => ?_)
    obtain ⟨e1, e2, h9⟩ := h9
    subst al9 sh9
    have hm0 : ¬ km_endsIn S nm ns mu (xs (4 * t + 1)) = 0 := by rw [← hp1]; exact hk0
    rw [if_neg hm0] at h9
    obtain ⟨e5, e6⟩ := h9
    subst v9 S9
    refine J.stk (st2 := [.int 0]) rfl ?_
    refine j_istore (lv' := [(7, .int 0), (6, .int (kc_endsIn S nm ns mu (xs (4 * t + 1)))), (0, .ref b), (1, .ref (al 0 0)), (2, .ref (al 40 0)), (3, .ref (al 70 0)), (4, .ref (al 71 0)), (5, .int (nI (4 * t)))]) cx dL_law_1651 (by decide) rfl (pc' := 1653) rfl ?_
    refine j_aload_n (j := 4) cx dL_law_1653 rfl rfl (pc' := 1654) rfl ?_
    refine j_cVP (cells1 := cells + 2 + 0 + 0) (slots1 := slots + 12 + 0 + 0) (As := []) (rest := []) cx (c_X3_thrown hXM1) gL_law_X3_thrown rfl rfl rfl 0 rfl (by decide +kernel) ⟨(by show 0 + 1 ≤ _; omega), (by show 8 + (1 + 11) + 0 ≤ _; omega)⟩ hXM1.1 rfl rfl rfl rfl (Nat.le_of_ble_eq_true rfl) dL_law_1654 ⟨by omega, by omega⟩ (pc' := 1657) rfl rfl rfl (fun v9 al9 sh9 S9 h9 => ?_)
    obtain ⟨e1, e2, e3, e4⟩ := h9
    subst v9 al9 sh9 S9
    refine J.stk (st2 := [.int (kc_endsIn S nm ns mu (xs (4 * t + 1)))]) (congrArg (fun z => [Value.int z]) ((sup_self _ _ _ _ _).trans hp1.symm)) ?_
    refine j_iload (j := 1) cx dL_law_1657 rfl (pc' := 1659) rfl ?_
    refine j_icmp_eq (tgt := 1664) cx dL_law_1659 (by decide) (pc' := 1662) rfl (fun _ => ?_) (fun h => absurd rfl h)
    refine j_iload (j := 1) cx dL_law_1664 rfl (pc' := 1666) rfl ?_
    refine j_if_ne (tgt := 1681) cx dL_law_1666 (by decide) (pc' := 1669) rfl (fun _ => ?_) (fun h => absurd h hk0)
    refine j_goto (tgt := 1884) cx dL_law_1681 (by decide) ?_
    refine J.sub [2, 3, 4, 5, 6, 7] rfl (J.widen (k := cells + 20) (n := slots + 300) (by omega) (by omega) (hk _ _ _ ?_))
    exact ⟨rfl, rfl, rfl, rfl, ⟨fo, hO⟩, hD, hXM, nm, ns, mu, hY, hFr, Eq.mp (congrArg (fun z => IN (sup S 40 0 0 z) nm ns mu (K + 5000)) hp1) (hp2 hk0)⟩
set_option maxHeartbeats 4000000 in
set_option maxRecDepth 100000 in
theorem l_pass {p : Program} {l : Launch} {e : Env} {R : Room} {s : State} {m : MethodId} {args : Array Value} {below : List Frame} {meth : Method} {c : Code} {cells slots : Nat} {Q : State → Prop} {Z : yL} {al : yAl} {sh : ySh} {S : yS} {b L t K x0 m0 o0 d0 : Nat} {xs : Nat → Int32} (hl0 : l.stackTraces = false) (cx : Cx p s m args c code 9 RL wsL_law Z) (hX : va_X b L xs s s.heap) (hb0 : b < s.heap.size ∧ ¬ Z.2.2.1 ≤ b) (hR : 20 ≤ R.frames ∧ 10000 ≤ R.locals ∧ cells + 20 ≤ R.cells ∧ slots + 300 ≤ R.slots) (ht : 4 * t + 4 ≤ L ∧ L ≤ 2048) (hW : WI Z x0 m0 o0 d0 K al sh S) (hp : ∀ nm ns mu, IN S nm ns mu K → P_pass S nm ns mu K (xs (4 * t + 1))) (hk : ∀ al9 sh9 S9, WI Z x0 m0 o0 d0 (K + 5000) al9 sh9 S9 → J p l e R s m args below meth c 9 Z (cells + 20) (slots + 300) Q al9 sh9 S9 1884 [(0, .ref b), (1, .ref x0), (2, .ref m0), (3, .ref o0), (4, .ref d0), (5, .int (nI (4 * t)))] []) : J p l e R s m args below meth c 9 Z cells slots Q al sh S 1684 [(0, .ref b), (1, .ref x0), (2, .ref m0), (3, .ref o0), (4, .ref d0), (5, .int (nI (4 * t)))] [] := by
  obtain ⟨rfl, rfl, rfl, rfl, ⟨fo, hO⟩, hD, hXM, nm, ns, mu, hY, hFr, hN⟩ := hW
  obtain ⟨hp1, hp2, hp3⟩ := hp nm ns mu hN
  refine j_aload_n (j := 1) cx dL_law_1684 rfl rfl (pc' := 1685) rfl ?_
  refine j_aload_n (j := 0) cx dL_law_1685 rfl rfl (pc' := 1686) rfl ?_
  refine j_iload (j := 5) cx dL_law_1686 rfl (pc' := 1688) rfl ?_
  refine j_iconst (v := 1) cx dL_law_1688 (by decide) (pc' := 1689) rfl ?_
  refine j_iadd cx dL_law_1689 (pc' := 1690) rfl ?_
  refine j_sld (n := 4 * t + 1) cx hX hb0 (nI_add (4 * t) 1) (by omega) dL_law_1690 (pc' := 1691) rfl ?_
  refine j_aload_n (j := 3) cx dL_law_1691 rfl rfl (pc' := 1692) rfl ?_
  refine j_cSW (cells1 := cells + 1) (slots1 := slots + 6) (As := [.ref (al 0 0), .int (xs (4 * t + 1)), .ref (al 70 0)]) (rest := []) cx (c_L_pass hl0 hY hN.2.1 hO) gL_law_L_pass rfl rfl rfl 3 rfl (by decide +kernel) ⟨(by show 11 + 1 ≤ _; omega), (by show 8 + (4 + 11) + 201 ≤ _; omega)⟩ rfl (Nat.le_of_ble_eq_true rfl) dL_law_1692 ⟨by omega, by omega⟩ (pc' := 1695) rfl rfl rfl (fun v9 al9 sh9 S9 h9 => ?_)
  obtain ⟨e1, e2, h9⟩ := h9
  subst v9 al9
  by_cases hk0 : kc_pass S nm ns mu (xs (4 * t + 1)) = 0
  · rw [if_pos hk0] at h9
    obtain ⟨e3, e4⟩ := h9
    subst sh9 S9
    obtain ⟨q1, q2, q3, q4, q5⟩ := hp3 hk0
    refine J.stk (st2 := [.int 0]) (congrArg (fun z => [Value.int z]) hk0) ?_
    have hXM1 : YM Z (shp sh 70 0 (yLo Z (vp_updL fo 0 (rc_pass S nm ns mu (xs (4 * t + 1))).toInt64))) := hXM.out (by decide)
    refine j_istore (lv' := [(6, .int 0), (0, .ref b), (1, .ref (al 0 0)), (2, .ref (al 40 0)), (3, .ref (al 70 0)), (4, .ref (al 71 0)), (5, .int (nI (4 * t)))]) cx dL_law_1695 (by decide) rfl (pc' := 1697) rfl ?_
    refine j_aload_n (j := 3) cx dL_law_1697 rfl rfl (pc' := 1698) rfl ?_
    refine j_aload_n (j := 1) cx dL_law_1698 rfl rfl (pc' := 1699) rfl ?_
    refine j_iload (j := 6) cx dL_law_1699 rfl (pc' := 1701) rfl ?_
    refine j_iconst (v := 1) cx dL_law_1701 (by decide) (pc' := 1702) rfl ?_
    refine j_iadd cx dL_law_1702 (pc' := 1703) rfl ?_
    refine j_sld (n := 4 * t + 1) cx hX hb0 (nI_add (4 * t) 1) (by omega) dL_law_1703 (pc' := 1704) rfl ?_
    refine j_cVP (cells1 := cells + 1 + 0) (slots1 := slots + 6 + 0) (As := [.int (xs (4 * t + 1))]) (rest := []) cx (c_X3_pass hXM1 q1) gL_law_X3_pass rfl rfl rfl 1 rfl (by decide +kernel) ⟨(by show 3 + 1 ≤ _; omega), (by show 8 + (5 + 11) + 65 ≤ _; omega)⟩ hXM1.1 rfl rfl rfl rfl (Nat.le_of_ble_eq_true rfl) dL_law_1704 ⟨by omega, by omega⟩ (pc' := 1707) rfl rfl rfl (fun v9 al9 sh9 S9 h9 => ?_)
    obtain ⟨e1, e2, h9⟩ := h9
    subst al9 sh9
    rw [if_pos q2] at h9
    obtain ⟨e5, e6⟩ := h9
    subst v9 S9
    refine J.stk (st2 := [.int (rc_pass S nm ns mu (xs (4 * t + 1)))]) (congrArg (fun z => [Value.int z]) q3) ?_
    refine j_istore (lv' := [(7, .int (rc_pass S nm ns mu (xs (4 * t + 1)))), (6, .int 0), (0, .ref b), (1, .ref (al 0 0)), (2, .ref (al 40 0)), (3, .ref (al 70 0)), (4, .ref (al 71 0)), (5, .int (nI (4 * t)))]) cx dL_law_1707 (by decide) rfl (pc' := 1709) rfl ?_
    refine j_aload_n (j := 4) cx dL_law_1709 rfl rfl (pc' := 1710) rfl ?_
    refine j_cVP (cells1 := cells + 1 + 0 + 0) (slots1 := slots + 6 + 0 + 0) (As := []) (rest := []) cx (c_X3_thrown hXM1) gL_law_X3_thrown rfl rfl rfl 0 rfl (by decide +kernel) ⟨(by show 0 + 1 ≤ _; omega), (by show 8 + (1 + 11) + 0 ≤ _; omega)⟩ hXM1.1 rfl rfl rfl rfl (Nat.le_of_ble_eq_true rfl) dL_law_1710 ⟨by omega, by omega⟩ (pc' := 1713) rfl rfl rfl (fun v9 al9 sh9 S9 h9 => ?_)
    obtain ⟨e1, e2, e3, e4⟩ := h9
    subst v9 al9 sh9 S9
    refine J.stk (st2 := [.int 0]) (congrArg (fun z => [Value.int z]) q4) ?_
    refine j_iload (j := 1) cx dL_law_1713 rfl (pc' := 1715) rfl ?_
    refine j_icmp_eq (tgt := 1720) cx dL_law_1715 (by decide) (pc' := 1718) rfl (fun _ => ?_) (fun h => absurd rfl h)
    refine j_iload (j := 1) cx dL_law_1720 rfl (pc' := 1722) rfl ?_
    refine j_if_ne (tgt := 1737) cx dL_law_1722 (by decide) (pc' := 1725) rfl (fun h => absurd rfl h) (fun _ => ?_)
    refine j_aload_n (j := 5) cx dL_law_1725 rfl rfl (pc' := 1726) rfl ?_
    refine j_iconst (v := 0) cx dL_law_1726 (by decide) (pc' := 1727) rfl ?_
    refine j_laldX cx (shp_self _ _ _ _) rfl rfl dL_law_1727 (pc' := 1728) rfl ?_
    refine j_iload (j := 0) cx dL_law_1728 rfl (pc' := 1730) rfl ?_
    refine j_i2l cx dL_law_1730 rfl (pc' := 1731) rfl ?_
    refine j_lcmp cx dL_law_1731 (pc' := 1732) rfl ?_
    refine j_if_eq (tgt := 1737) cx dL_law_1732 (by decide) (pc' := 1735) rfl (fun _ => ?_) (fun h => absurd (lcmp_self _) h)
    refine j_goto (tgt := 1884) cx dL_law_1737 (by decide) ?_
    refine J.sub [2, 3, 4, 5, 6, 7] rfl (J.widen (k := cells + 20) (n := slots + 300) (by omega) (by omega) (hk _ _ _ ?_))
    exact ⟨rfl, rfl, rfl, rfl, ⟨_, shp_self _ _ _ _⟩, hD.imp (fun f hf => (shp_ne _ _ (by omega)).trans hf), hXM1, nm, ns, mu, hY.out (by decide), hFr.out (by decide), q5⟩
  · rw [if_neg hk0] at h9
    obtain ⟨e3, e4⟩ := h9
    subst sh9 S9
    have hXM1 := hXM
    refine J.stk (st2 := [.int (kc_pass S nm ns mu (xs (4 * t + 1)))]) rfl ?_
    refine j_istore (lv' := [(6, .int (kc_pass S nm ns mu (xs (4 * t + 1)))), (0, .ref b), (1, .ref (al 0 0)), (2, .ref (al 40 0)), (3, .ref (al 70 0)), (4, .ref (al 71 0)), (5, .int (nI (4 * t)))]) cx dL_law_1695 (by decide) rfl (pc' := 1697) rfl ?_
    refine j_aload_n (j := 3) cx dL_law_1697 rfl rfl (pc' := 1698) rfl ?_
    refine j_aload_n (j := 1) cx dL_law_1698 rfl rfl (pc' := 1699) rfl ?_
    refine j_iload (j := 6) cx dL_law_1699 rfl (pc' := 1701) rfl ?_
    refine j_iconst (v := 1) cx dL_law_1701 (by decide) (pc' := 1702) rfl ?_
    refine j_iadd cx dL_law_1702 (pc' := 1703) rfl ?_
    refine j_sld (n := 4 * t + 1) cx hX hb0 (nI_add (4 * t) 1) (by omega) dL_law_1703 (pc' := 1704) rfl ?_
    refine j_cVP (cells1 := cells + 1 + 0) (slots1 := slots + 6 + 0) (As := [.int (xs (4 * t + 1))]) (rest := []) cx (c_X3_pass hXM1 hN.1) gL_law_X3_pass rfl rfl rfl 1 rfl (by decide +kernel) ⟨(by show 3 + 1 ≤ _; omega), (by show 8 + (5 + 11) + 65 ≤ _; omega)⟩ hXM1.1 rfl rfl rfl rfl (Nat.le_of_ble_eq_true rfl) dL_law_1704 ⟨by omega, by omega⟩ (pc' := 1707) rfl rfl rfl (fun v9 al9 sh9 S9 h9 => ?_)
    obtain ⟨e1, e2, h9⟩ := h9
    subst al9 sh9
    have hm0 : ¬ km_pass S nm ns mu (xs (4 * t + 1)) = 0 := by rw [← hp1]; exact hk0
    rw [if_neg hm0] at h9
    obtain ⟨e5, e6⟩ := h9
    subst v9 S9
    refine J.stk (st2 := [.int 0]) rfl ?_
    refine j_istore (lv' := [(7, .int 0), (6, .int (kc_pass S nm ns mu (xs (4 * t + 1)))), (0, .ref b), (1, .ref (al 0 0)), (2, .ref (al 40 0)), (3, .ref (al 70 0)), (4, .ref (al 71 0)), (5, .int (nI (4 * t)))]) cx dL_law_1707 (by decide) rfl (pc' := 1709) rfl ?_
    refine j_aload_n (j := 4) cx dL_law_1709 rfl rfl (pc' := 1710) rfl ?_
    refine j_cVP (cells1 := cells + 1 + 0 + 0) (slots1 := slots + 6 + 0 + 0) (As := []) (rest := []) cx (c_X3_thrown hXM1) gL_law_X3_thrown rfl rfl rfl 0 rfl (by decide +kernel) ⟨(by show 0 + 1 ≤ _; omega), (by show 8 + (1 + 11) + 0 ≤ _; omega)⟩ hXM1.1 rfl rfl rfl rfl (Nat.le_of_ble_eq_true rfl) dL_law_1710 ⟨by omega, by omega⟩ (pc' := 1713) rfl rfl rfl (fun v9 al9 sh9 S9 h9 => ?_)
    obtain ⟨e1, e2, e3, e4⟩ := h9
    subst v9 al9 sh9 S9
    refine J.stk (st2 := [.int (kc_pass S nm ns mu (xs (4 * t + 1)))]) (congrArg (fun z => [Value.int z]) ((sup_self _ _ _ _ _).trans hp1.symm)) ?_
    refine j_iload (j := 1) cx dL_law_1713 rfl (pc' := 1715) rfl ?_
    refine j_icmp_eq (tgt := 1720) cx dL_law_1715 (by decide) (pc' := 1718) rfl (fun _ => ?_) (fun h => absurd rfl h)
    refine j_iload (j := 1) cx dL_law_1720 rfl (pc' := 1722) rfl ?_
    refine j_if_ne (tgt := 1737) cx dL_law_1722 (by decide) (pc' := 1725) rfl (fun _ => ?_) (fun h => absurd h hk0)
    refine j_goto (tgt := 1884) cx dL_law_1737 (by decide) ?_
    refine J.sub [2, 3, 4, 5, 6, 7] rfl (J.widen (k := cells + 20) (n := slots + 300) (by omega) (by omega) (hk _ _ _ ?_))
    exact ⟨rfl, rfl, rfl, rfl, ⟨fo, hO⟩, hD, hXM, nm, ns, mu, hY, hFr, Eq.mp (congrArg (fun z => IN (sup S 40 0 0 z) nm ns mu (K + 5000)) hp1) (hp2 hk0)⟩
