theorem cmp_self64 {x : UInt64} (h : vf_n64 x) : Op.cmpValue (FP.dcmp x x) .l = 0 := by
  have h1 : x.toNat % 2 ^ 63 ≤ 9218868437227405312 := by
    unfold vf_n64 at h
    rw [UInt64.le_iff_toNat_le, UInt64.toNat_and] at h
    change x.toNat &&& (2 ^ 63 - 1) ≤ 9218868437227405312 at h
    rw [Nat.and_two_pow_sub_one_eq_mod] at h
    exact h
  have h2 : Jvm.FP.Core.dIsNaN x = false := by
    cases e : Jvm.FP.Core.dIsNaN x with
    | false => rfl
    | true =>
      rw [Jvm.FP.Core.isNaN_bits] at e
      omega
  have h3 := Jvm.FP.Core.dcmp_self ((Jvm.FP.Core.notNaN_iff x).mp h2)
  rw [show FP.dcmp x x = some .eq from h3]
  rfl
theorem cmp_self32 {x : UInt32} (h : vf_n32 x) : Op.cmpValue (FP.fcmp x x) .l = 0 := by
  have h1 : x.toNat % 2 ^ 31 ≤ 2139095040 := by
    unfold vf_n32 at h
    rw [UInt32.le_iff_toNat_le, UInt32.toNat_and] at h
    change x.toNat &&& (2 ^ 31 - 1) ≤ 2139095040 at h
    rw [Nat.and_two_pow_sub_one_eq_mod] at h
    exact h
  have h2 : Jvm.FP.Core.fIsNaN x = false := by
    cases e : Jvm.FP.Core.fIsNaN x with
    | false => rfl
    | true =>
      rw [Jvm.FP.Core.isNaN_bits32] at e
      omega
  have h3 := Jvm.FP.Core.fcmp_self ((Jvm.FP.Core.notNaN_iff32 x).mp h2)
  rw [show FP.fcmp x x = some .eq from h3]
  rfl
theorem nI_ge4 {d : Nat} (h : d < 4) : ¬ (4 : Int32) ≤ nI d := by
  have q := nI_ge h (by decide)
  rwa [show nI 4 = 4 by decide] at q
theorem inB_L_agrees : ∀ w ∈ u_ws RX3 TX3 14, w ∈ wsL_agrees := by decide +kernel
set_option maxHeartbeats 4000000 in
set_option maxRecDepth 100000 in
theorem c_L_agrees {l : Launch} (hl0 : l.stackTraces = false) {Z : yL} {al : yAl} {sh : ySh} {S : yS} {ns : Nat} {mu : Nat → Nat} {M T : Nat} (hY : YC Z al sh 3 ns mu) (hK : YK Z al sh) (h : IN S S ns mu M T)  : Ct l yL_agrees wsL_agrees ({ frames := 8, cells := 411, slots := 2466, locals := 134 }) 411 2466 Z [.ref (al 0 0), .ref (al 40 0)] al sh S (yR al sh (some (.int 1)) S) := by
  have hn40 := h.ns40
  obtain ⟨fo50, hf50, hg50⟩ := hK.2.2.2.2.2.2.2.2.2.2.1
  refine Ct.of (lv := [(0, .ref (al 0 0)), (1, .ref (al 40 0))]) (by decide) rfl (Nat.le_of_ble_eq_true rfl) rfl ?_
  intro p_ e_ s_ m_ below_ meth_ c_ cx hlk hr hnm9
  have loop2 : ∀ (k i : Nat), i + k = ns → J p_ l e_ ({ frames := 8, cells := 411, slots := 2466, locals := 134 }) s_ m_ (([.ref (al 0 0), .ref (al 40 0)] : List Value).toArray) below_ meth_ c_ 5 Z (9 + 10 * i) (54 + 60 * i) (MQ below_ (Qn Z (yR al sh (some (.int 1)) S)) (([.ref (al 0 0), .ref (al 40 0)] : List Value).toArray) s_ 411 2466 (yF Z)) al sh S 85 [(0, .ref (al 0 0)), (1, .ref (al 40 0)), (2, .int 1), (3, .int (nI i))] [] := by
    intro k
    induction k with
    | zero =>
      intro i hik
      have hik2 : i = ns := by omega
      rw [hik2]
      refine J.widen (k := 409) (n := 2454) (by omega) (by omega) ?_
      refine j_iload_n (j := 3) cx dL_agrees_85 rfl rfl (pc' := 86) rfl ?_
      refine j_aload_n (j := 1) cx dL_agrees_86 rfl rfl (pc' := 87) rfl ?_
      refine j_getN (fk := 3) (v := .int (nI ns)) cx rfl hK.1 inB_L_agrees (by decide) (by decide) rfl ((yV_i rfl).trans (congrArg Value.int h.b3)) rfl dL_agrees_87 (pc' := 90) rfl ?_
      refine j_icmp_ge (tgt := 214) cx dL_agrees_90 (by decide) (pc' := 93) rfl (fun _ => ?_) (fun hq9 => by first | exact absurd hq9 nI_gg | exact absurd nI_gg hq9)
      refine j_iload_n (j := 2) cx dL_agrees_214 rfl rfl (pc' := 215) rfl ?_
      refine j_if_eq (tgt := 274) cx dL_agrees_215 (by decide) (pc' := 218) rfl (fun h => absurd h (by decide)) (fun _ => ?_)
      refine j_aload_n (j := 1) cx dL_agrees_218 rfl rfl (pc' := 219) rfl ?_
      refine j_getN (fk := 12) (v := .int (S 40 0 12)) cx rfl hK.1 inB_L_agrees (by decide) (by decide) rfl (yV_i rfl) rfl dL_agrees_219 (pc' := 222) rfl ?_
      refine j_if_eq (tgt := 244) cx dL_agrees_222 (by decide) (pc' := 225) rfl (fun h2 => ?_) (fun h2 => ?_)
      · refine j_aload_n (j := 1) cx dL_agrees_244 rfl rfl (pc' := 245) rfl ?_
        refine j_getN (fk := 3) (v := .int (nI ns)) cx rfl hK.1 inB_L_agrees (by decide) (by decide) rfl ((yV_i rfl).trans (congrArg Value.int h.b3)) rfl dL_agrees_245 (pc' := 248) rfl ?_
        refine j_if_eq (tgt := 270) cx dL_agrees_248 (by decide) (pc' := 251) rfl (fun h3 => ?_) (fun h3 => ?_)
        · refine j_iconst (v := 1) cx dL_agrees_270 (by decide) (pc' := 271) rfl ?_
          refine j_goto (tgt := 275) cx dL_agrees_271 (by decide) ?_
          exact j_iret (ty := .boolean) cx hlk hr rfl (Nat.le_of_ble_eq_true rfl) (Nat.le_of_ble_eq_true rfl) dL_agrees_275 ⟨rfl, rfl, rfl, rfl⟩
        · refine j_aload_n (j := 0) cx dL_agrees_251 rfl rfl (pc' := 252) rfl ?_
          refine j_cVR (cells1 := 410) (slots1 := 2460) (st1 := [.double (FP.ddiv (FP.i2d (S 40 0 12)) (FP.i2d (nI ns)))]) (As := []) (rest := []) cx (n_mch hl0 hY h h3) gL_agrees_X2_meanCharge rfl rfl rfl 0 rfl (by decide +kernel) ⟨Nat.le_of_ble_eq_true rfl, Nat.le_of_ble_eq_true rfl⟩ hY.1 rfl rfl rfl rfl (Nat.le_of_ble_eq_true rfl) dL_agrees_252 ⟨(Nat.le_of_ble_eq_true rfl), (Nat.le_of_ble_eq_true rfl)⟩ (pc' := 255) rfl rfl rfl rfl ?_
          refine j_aload_n (j := 1) cx dL_agrees_255 rfl rfl (pc' := 256) rfl ?_
          refine j_getN (fk := 12) (v := .int (S 40 0 12)) cx rfl hK.1 inB_L_agrees (by decide) (by decide) rfl (yV_i rfl) rfl dL_agrees_256 (pc' := 259) rfl ?_
          refine j_i2d cx dL_agrees_259 (pc' := 260) rfl ?_
          refine j_aload_n (j := 1) cx dL_agrees_260 rfl rfl (pc' := 261) rfl ?_
          refine j_getN (fk := 3) (v := .int (nI ns)) cx rfl hK.1 inB_L_agrees (by decide) (by decide) rfl ((yV_i rfl).trans (congrArg Value.int h.b3)) rfl dL_agrees_261 (pc' := 264) rfl ?_
          refine j_i2d cx dL_agrees_264 (pc' := 265) rfl ?_
          refine j_ddiv cx dL_agrees_265 (dq_n _ h3) (pc' := 266) rfl ?_
          refine j_dcmp cx dL_agrees_266 (pc' := 267) rfl ?_
          refine j_if_ne (tgt := 274) cx dL_agrees_267 (by decide) (pc' := 270) rfl (fun hq9 => by first | exact absurd hq9 (cmp_self64 (dq_n _ h3)) | exact absurd (cmp_self64 (dq_n _ h3)) hq9) (fun _ => ?_)
          refine j_iconst (v := 1) cx dL_agrees_270 (by decide) (pc' := 271) rfl ?_
          refine j_goto (tgt := 275) cx dL_agrees_271 (by decide) ?_
          exact j_iret (ty := .boolean) cx hlk hr rfl (Nat.le_of_ble_eq_true rfl) (Nat.le_of_ble_eq_true rfl) dL_agrees_275 ⟨rfl, rfl, rfl, rfl⟩
      · refine j_aload_n (j := 0) cx dL_agrees_225 rfl rfl (pc' := 226) rfl ?_
        refine j_cVR (cells1 := 410) (slots1 := 2460) (st1 := [.float (FP.fdiv (FP.i2f (S 40 0 11)) (FP.i2f (S 40 0 12)))]) (As := []) (rest := []) cx (n_psh hl0 hY h h2) gL_agrees_X2_pageShare rfl rfl rfl 0 rfl (by decide +kernel) ⟨Nat.le_of_ble_eq_true rfl, Nat.le_of_ble_eq_true rfl⟩ hY.1 rfl rfl rfl rfl (Nat.le_of_ble_eq_true rfl) dL_agrees_226 ⟨(Nat.le_of_ble_eq_true rfl), (Nat.le_of_ble_eq_true rfl)⟩ (pc' := 229) rfl rfl rfl rfl ?_
        refine j_aload_n (j := 1) cx dL_agrees_229 rfl rfl (pc' := 230) rfl ?_
        refine j_getN (fk := 11) (v := .int (S 40 0 11)) cx rfl hK.1 inB_L_agrees (by decide) (by decide) rfl (yV_i rfl) rfl dL_agrees_230 (pc' := 233) rfl ?_
        refine j_i2f cx dL_agrees_233 (pc' := 234) rfl ?_
        refine j_aload_n (j := 1) cx dL_agrees_234 rfl rfl (pc' := 235) rfl ?_
        refine j_getN (fk := 12) (v := .int (S 40 0 12)) cx rfl hK.1 inB_L_agrees (by decide) (by decide) rfl (yV_i rfl) rfl dL_agrees_235 (pc' := 238) rfl ?_
        refine j_i2f cx dL_agrees_238 (pc' := 239) rfl ?_
        refine j_fdiv cx dL_agrees_239 (fq_n _ h2) (pc' := 240) rfl ?_
        refine j_fcmp cx dL_agrees_240 (pc' := 241) rfl ?_
        refine j_if_ne (tgt := 274) cx dL_agrees_241 (by decide) (pc' := 244) rfl (fun hq9 => by first | exact absurd hq9 (cmp_self32 (fq_n _ h2)) | exact absurd (cmp_self32 (fq_n _ h2)) hq9) (fun _ => ?_)
        refine j_aload_n (j := 1) cx dL_agrees_244 rfl rfl (pc' := 245) rfl ?_
        refine j_getN (fk := 3) (v := .int (nI ns)) cx rfl hK.1 inB_L_agrees (by decide) (by decide) rfl ((yV_i rfl).trans (congrArg Value.int h.b3)) rfl dL_agrees_245 (pc' := 248) rfl ?_
        refine j_if_eq (tgt := 270) cx dL_agrees_248 (by decide) (pc' := 251) rfl (fun h8 => ?_) (fun h8 => ?_)
        · refine j_iconst (v := 1) cx dL_agrees_270 (by decide) (pc' := 271) rfl ?_
          refine j_goto (tgt := 275) cx dL_agrees_271 (by decide) ?_
          exact j_iret (ty := .boolean) cx hlk hr rfl (Nat.le_of_ble_eq_true rfl) (Nat.le_of_ble_eq_true rfl) dL_agrees_275 ⟨rfl, rfl, rfl, rfl⟩
        · refine j_aload_n (j := 0) cx dL_agrees_251 rfl rfl (pc' := 252) rfl ?_
          refine j_cVR (cells1 := 411) (slots1 := 2466) (st1 := [.double (FP.ddiv (FP.i2d (S 40 0 12)) (FP.i2d (nI ns)))]) (As := []) (rest := []) cx (n_mch hl0 hY h h8) gL_agrees_X2_meanCharge rfl rfl rfl 0 rfl (by decide +kernel) ⟨Nat.le_of_ble_eq_true rfl, Nat.le_of_ble_eq_true rfl⟩ hY.1 rfl rfl rfl rfl (Nat.le_of_ble_eq_true rfl) dL_agrees_252 ⟨(Nat.le_of_ble_eq_true rfl), (Nat.le_of_ble_eq_true rfl)⟩ (pc' := 255) rfl rfl rfl rfl ?_
          refine j_aload_n (j := 1) cx dL_agrees_255 rfl rfl (pc' := 256) rfl ?_
          refine j_getN (fk := 12) (v := .int (S 40 0 12)) cx rfl hK.1 inB_L_agrees (by decide) (by decide) rfl (yV_i rfl) rfl dL_agrees_256 (pc' := 259) rfl ?_
          refine j_i2d cx dL_agrees_259 (pc' := 260) rfl ?_
          refine j_aload_n (j := 1) cx dL_agrees_260 rfl rfl (pc' := 261) rfl ?_
          refine j_getN (fk := 3) (v := .int (nI ns)) cx rfl hK.1 inB_L_agrees (by decide) (by decide) rfl ((yV_i rfl).trans (congrArg Value.int h.b3)) rfl dL_agrees_261 (pc' := 264) rfl ?_
          refine j_i2d cx dL_agrees_264 (pc' := 265) rfl ?_
          refine j_ddiv cx dL_agrees_265 (dq_n _ h8) (pc' := 266) rfl ?_
          refine j_dcmp cx dL_agrees_266 (pc' := 267) rfl ?_
          refine j_if_ne (tgt := 274) cx dL_agrees_267 (by decide) (pc' := 270) rfl (fun hq9 => by first | exact absurd hq9 (cmp_self64 (dq_n _ h8)) | exact absurd (cmp_self64 (dq_n _ h8)) hq9) (fun _ => ?_)
          refine j_iconst (v := 1) cx dL_agrees_270 (by decide) (pc' := 271) rfl ?_
          refine j_goto (tgt := 275) cx dL_agrees_271 (by decide) ?_
          exact j_iret (ty := .boolean) cx hlk hr rfl (Nat.le_of_ble_eq_true rfl) (Nat.le_of_ble_eq_true rfl) dL_agrees_275 ⟨rfl, rfl, rfl, rfl⟩
    | succ k ih =>
      intro i hik
      have hi : i < ns := by omega
      have loop3 : ∀ (k2 d : Nat), d + k2 = 4 → J p_ l e_ ({ frames := 8, cells := 411, slots := 2466, locals := 134 }) s_ m_ (([.ref (al 0 0), .ref (al 40 0)] : List Value).toArray) below_ meth_ c_ 5 Z (11 + 10 * i + 2 * d) (66 + 60 * i + 12 * d) (MQ below_ (Qn Z (yR al sh (some (.int 1)) S)) (([.ref (al 0 0), .ref (al 40 0)] : List Value).toArray) s_ 411 2466 (yF Z)) al sh S 167 [(0, .ref (al 0 0)), (1, .ref (al 40 0)), (2, .int 1), (3, .int (nI i)), (4, .int (nI d))] [] := by
        intro k2
        induction k2 with
        | zero =>
          intro d hdk
          have hdk2 : d = 4 := by omega
          rw [hdk2]
          refine j_iload (j := 4) cx dL_agrees_167 rfl (pc' := 169) rfl ?_
          refine j_iconst (v := 4) cx dL_agrees_169 (by decide) (pc' := 170) rfl ?_
          refine j_icmp_ge (tgt := 208) cx dL_agrees_170 (by decide) (pc' := 173) rfl (fun _ => ?_) (fun hq9 => by first | exact absurd hq9 (show (4 : Int32) ≤ nI 4 by decide) | exact absurd (show (4 : Int32) ≤ nI 4 by decide) hq9)
          refine j_iinc (j := 3) (v := nI (i + 1)) (lv' := [(3, .int (nI (i + 1))), (0, .ref (al 0 0)), (1, .ref (al 40 0)), (2, .int 1), (4, .int (nI 4))]) cx dL_agrees_208 rfl (nI_1 i) (by decide) rfl (pc' := 211) rfl ?_
          refine j_goto (tgt := 85) cx dL_agrees_211 (by decide) ?_
          exact J.sub [1, 2, 3, 0] rfl (J.widen (k := 9 + 10 * (i + 1)) (n := 54 + 60 * (i + 1)) (by omega) (by omega) (ih (i + 1) (by omega)))
        | succ k2 ih2 =>
          intro d hdk
          have hd : d < 4 := by omega
          refine j_iload (j := 4) cx dL_agrees_167 rfl (pc' := 169) rfl ?_
          refine j_iconst (v := 4) cx dL_agrees_169 (by decide) (pc' := 170) rfl ?_
          refine j_icmp_ge (tgt := 208) cx dL_agrees_170 (by decide) (pc' := 173) rfl (fun hq9 => by first | exact absurd hq9 (nI_ge4 hd) | exact absurd (nI_ge4 hd) hq9) (fun _ => ?_)
          refine j_iload_n (j := 2) cx dL_agrees_173 rfl rfl (pc' := 174) rfl ?_
          refine j_if_eq (tgt := 208) cx dL_agrees_174 (by decide) (pc' := 177) rfl (fun h => absurd h (by decide)) (fun _ => ?_)
          refine j_aload_n (j := 0) cx dL_agrees_177 rfl rfl (pc' := 178) rfl ?_
          refine j_iload_n (j := 3) cx dL_agrees_178 rfl rfl (pc' := 179) rfl ?_
          refine j_iload (j := 4) cx dL_agrees_179 rfl (pc' := 181) rfl ?_
          refine j_cVR (cells1 := 11 + 10 * i + 2 * d + 2) (slots1 := 66 + 60 * i + 12 * d + 12) (st1 := [.int (S 51 i d)]) (As := [.int (nI i), .int (nI d)]) (rest := []) cx (n_chg hl0 hY h hi hd) gL_agrees_X2_charged rfl rfl rfl 2 rfl (by decide +kernel) ⟨Nat.le_of_ble_eq_true rfl, Nat.le_of_ble_eq_true rfl⟩ hY.1 rfl rfl rfl rfl (Nat.le_of_ble_eq_true rfl) dL_agrees_181 ⟨(by dsimp only; omega), (by dsimp only; omega)⟩ (pc' := 184) rfl rfl rfl rfl ?_
          refine j_aload_n (j := 1) cx dL_agrees_184 rfl rfl (pc' := 185) rfl ?_
          refine j_getN (fk := 9) (v := .ref (al 50 0)) cx rfl hK.1 inB_L_agrees (by decide) (by decide) rfl (yV_r (k := (50, 0)) rfl) rfl dL_agrees_185 (pc' := 188) rfl ?_
          refine j_iload_n (j := 3) cx dL_agrees_188 rfl rfl (pc' := 189) rfl ?_
          refine j_aald cx hf50 (ti := 5) rfl rfl (vp_in_nI (by omega) (by decide)) (r := al 51 i) ((congrArg _ (nI_clamp (by omega))).trans (hg50 i (by omega))) rfl dL_agrees_189 (pc' := 190) rfl ?_
          refine j_iload (j := 4) cx dL_agrees_190 rfl (pc' := 192) rfl ?_
          refine j_iald (v := S 51 i d) cx (hK.2.2.2.2.2.2.2.2.2.2.2 _ (by omega)) rfl (vp_in_nI hd (by decide)) (by rw [(nI_clamp (by omega))]) rfl dL_agrees_192 (pc' := 193) rfl ?_
          refine j_icmp_ne (tgt := 200) cx dL_agrees_193 (by decide) (pc' := 196) rfl (fun hq9 => by first | exact absurd hq9 rfl | exact absurd rfl hq9) (fun _ => ?_)
          refine j_iconst (v := 1) cx dL_agrees_196 (by decide) (pc' := 197) rfl ?_
          refine j_goto (tgt := 201) cx dL_agrees_197 (by decide) ?_
          refine j_istore_n (lv' := [(2, .int 1), (0, .ref (al 0 0)), (1, .ref (al 40 0)), (3, .int (nI i)), (4, .int (nI d))]) cx dL_agrees_201 rfl (by decide) rfl (pc' := 202) rfl ?_
          refine j_iinc (j := 4) (v := nI (d + 1)) (lv' := [(4, .int (nI (d + 1))), (2, .int 1), (0, .ref (al 0 0)), (1, .ref (al 40 0)), (3, .int (nI i))]) cx dL_agrees_202 rfl (nI_1 d) (by decide) rfl (pc' := 205) rfl ?_
          refine j_goto (tgt := 167) cx dL_agrees_205 (by decide) ?_
          exact J.sub [2, 3, 1, 4, 0] rfl (J.widen (k := 11 + 10 * i + 2 * (d + 1)) (n := 66 + 60 * i + 12 * (d + 1)) (by omega) (by omega) (ih2 (d + 1) (by omega)))
      refine j_iload_n (j := 3) cx dL_agrees_85 rfl rfl (pc' := 86) rfl ?_
      refine j_aload_n (j := 1) cx dL_agrees_86 rfl rfl (pc' := 87) rfl ?_
      refine j_getN (fk := 3) (v := .int (nI ns)) cx rfl hK.1 inB_L_agrees (by decide) (by decide) rfl ((yV_i rfl).trans (congrArg Value.int h.b3)) rfl dL_agrees_87 (pc' := 90) rfl ?_
      refine j_icmp_ge (tgt := 214) cx dL_agrees_90 (by decide) (pc' := 93) rfl (fun hq9 => by first | exact absurd hq9 (nI_ge hi (by omega)) | exact absurd (nI_ge hi (by omega)) hq9) (fun _ => ?_)
      refine j_iload_n (j := 2) cx dL_agrees_93 rfl rfl (pc' := 94) rfl ?_
      refine j_if_eq (tgt := 214) cx dL_agrees_94 (by decide) (pc' := 97) rfl (fun h => absurd h (by decide)) (fun _ => ?_)
      refine j_aload_n (j := 0) cx dL_agrees_97 rfl rfl (pc' := 98) rfl ?_
      refine j_iload_n (j := 3) cx dL_agrees_98 rfl rfl (pc' := 99) rfl ?_
      refine j_cVR (cells1 := 9 + 10 * i + 1) (slots1 := 54 + 60 * i + 6) (st1 := [.int (S 46 0 i)]) (As := [.int (nI i)]) (rest := []) cx (n_usr hl0 hY h hi) gL_agrees_X2_userOf rfl rfl rfl 1 rfl (by decide +kernel) ⟨Nat.le_of_ble_eq_true rfl, Nat.le_of_ble_eq_true rfl⟩ hY.1 rfl rfl rfl rfl (Nat.le_of_ble_eq_true rfl) dL_agrees_99 ⟨(by dsimp only; omega), (by dsimp only; omega)⟩ (pc' := 102) rfl rfl rfl rfl ?_
      refine j_aload_n (j := 1) cx dL_agrees_102 rfl rfl (pc' := 103) rfl ?_
      refine j_getN (fk := 5) (v := .ref (al 46 0)) cx rfl hK.1 inB_L_agrees (by decide) (by decide) rfl (yV_r (k := (46, 0)) rfl) rfl dL_agrees_103 (pc' := 106) rfl ?_
      refine j_iload_n (j := 3) cx dL_agrees_106 rfl rfl (pc' := 107) rfl ?_
      refine j_iald (v := S 46 0 i) cx hK.2.2.2.2.1 rfl (vp_in_nI (by omega) (by decide)) (by rw [(nI_clamp (by omega))]) rfl dL_agrees_107 (pc' := 108) rfl ?_
      refine j_icmp_ne (tgt := 162) cx dL_agrees_108 (by decide) (pc' := 111) rfl (fun hq9 => by first | exact absurd hq9 rfl | exact absurd rfl hq9) (fun _ => ?_)
      refine j_aload_n (j := 0) cx dL_agrees_111 rfl rfl (pc' := 112) rfl ?_
      refine j_iload_n (j := 3) cx dL_agrees_112 rfl rfl (pc' := 113) rfl ?_
      refine j_cVR (cells1 := 9 + 10 * i + 1 + 1) (slots1 := 54 + 60 * i + 6 + 6) (st1 := [.int (if S 49 0 i = 0 then (if S 46 0 i = S 45 0 i then 97 else 116) else S 49 0 i)]) (As := [.int (nI i)]) (rest := []) cx (n_sta hl0 hY h hi) gL_agrees_X2_state rfl rfl rfl 1 rfl (by decide +kernel) ⟨Nat.le_of_ble_eq_true rfl, Nat.le_of_ble_eq_true rfl⟩ hY.1 rfl rfl rfl rfl (Nat.le_of_ble_eq_true rfl) dL_agrees_113 ⟨(by dsimp only; omega), (by dsimp only; omega)⟩ (pc' := 116) rfl rfl rfl rfl ?_
      refine j_aload_n (j := 1) cx dL_agrees_116 rfl rfl (pc' := 117) rfl ?_
      refine j_iload_n (j := 3) cx dL_agrees_117 rfl rfl (pc' := 118) rfl ?_
      refine j_cVR (cells1 := 9 + 10 * i + 1 + 1) (slots1 := 54 + 60 * i + 6 + 6) (st1 := [.int (bI (S 49 0 i = 0)), .int (if S 49 0 i = 0 then (if S 46 0 i = S 45 0 i then 97 else 116) else S 49 0 i)]) (As := [.int (nI i)]) (rest := [.int (if S 49 0 i = 0 then (if S 46 0 i = S 45 0 i then 97 else 116) else S 49 0 i)]) cx (c_X3_isLive hK (by omega)) gL_agrees_X3_isLive rfl rfl rfl 1 rfl (by decide +kernel) ⟨Nat.le_of_ble_eq_true rfl, Nat.le_of_ble_eq_true rfl⟩ hK.1 rfl rfl rfl rfl (Nat.le_of_ble_eq_true rfl) dL_agrees_118 ⟨(by dsimp only; omega), (by dsimp only; omega)⟩ (pc' := 121) rfl rfl rfl rfl ?_
      refine j_ifb_ne (tgt := 133) cx dL_agrees_121 (by decide) (pc' := 124) rfl (fun h6 => ?_) (fun h6 => ?_)
      · refine j_aload_n (j := 1) cx dL_agrees_133 rfl rfl (pc' := 134) rfl ?_
        refine j_getN (fk := 5) (v := .ref (al 46 0)) cx rfl hK.1 inB_L_agrees (by decide) (by decide) rfl (yV_r (k := (46, 0)) rfl) rfl dL_agrees_134 (pc' := 137) rfl ?_
        refine j_iload_n (j := 3) cx dL_agrees_137 rfl rfl (pc' := 138) rfl ?_
        refine j_iald (v := S 46 0 i) cx hK.2.2.2.2.1 rfl (vp_in_nI (by omega) (by decide)) (by rw [(nI_clamp (by omega))]) rfl dL_agrees_138 (pc' := 139) rfl ?_
        refine j_aload_n (j := 1) cx dL_agrees_139 rfl rfl (pc' := 140) rfl ?_
        refine j_getN (fk := 4) (v := .ref (al 45 0)) cx rfl hK.1 inB_L_agrees (by decide) (by decide) rfl (yV_r (k := (45, 0)) rfl) rfl dL_agrees_140 (pc' := 143) rfl ?_
        refine j_iload_n (j := 3) cx dL_agrees_143 rfl rfl (pc' := 144) rfl ?_
        refine j_iald (v := S 45 0 i) cx hK.2.2.2.1 rfl (vp_in_nI (by omega) (by decide)) (by rw [(nI_clamp (by omega))]) rfl dL_agrees_144 (pc' := 145) rfl ?_
        refine j_icmp_ne (tgt := 153) cx dL_agrees_145 (by decide) (pc' := 148) rfl (fun h7 => ?_) (fun h7 => ?_)
        · refine j_bipush (v := 116) cx dL_agrees_153 (by decide) (pc' := 155) rfl ?_
          refine j_icmp_ne (tgt := 162) cx dL_agrees_155 (by decide) (pc' := 158) rfl (fun hq9 => by first | exact absurd hq9 (show (if S 49 0 i = 0 then (if S 46 0 i = S 45 0 i then 97 else 116) else S 49 0 i : Int32) = 116 by rw [if_pos h6, if_neg h7]) | exact absurd (show (if S 49 0 i = 0 then (if S 46 0 i = S 45 0 i then 97 else 116) else S 49 0 i : Int32) = 116 by rw [if_pos h6, if_neg h7]) hq9) (fun _ => ?_)
          refine j_iconst (v := 1) cx dL_agrees_158 (by decide) (pc' := 159) rfl ?_
          refine j_goto (tgt := 163) cx dL_agrees_159 (by decide) ?_
          refine j_istore_n (lv' := [(2, .int 1), (0, .ref (al 0 0)), (1, .ref (al 40 0)), (3, .int (nI i))]) cx dL_agrees_163 rfl (by decide) rfl (pc' := 164) rfl ?_
          refine j_iconst (v := 0) cx dL_agrees_164 (by decide) (pc' := 165) rfl ?_
          refine j_istore (lv' := [(4, .int 0), (2, .int 1), (0, .ref (al 0 0)), (1, .ref (al 40 0)), (3, .int (nI i))]) cx dL_agrees_165 (by decide) rfl (pc' := 167) rfl ?_
          refine J.sub [2, 3, 1, 4, 0] rfl (J.widen (k := 11 + 10 * i + 2 * 0) (n := 66 + 60 * i + 12 * 0) (by omega) (by omega) ?_)
          exact loop3 4 0 rfl
        · refine j_bipush (v := 97) cx dL_agrees_148 (by decide) (pc' := 150) rfl ?_
          refine j_goto (tgt := 155) cx dL_agrees_150 (by decide) ?_
          refine j_icmp_ne (tgt := 162) cx dL_agrees_155 (by decide) (pc' := 158) rfl (fun hq9 => by first | exact absurd hq9 (show (if S 49 0 i = 0 then (if S 46 0 i = S 45 0 i then 97 else 116) else S 49 0 i : Int32) = 97 by rw [if_pos h6, if_pos h7]) | exact absurd (show (if S 49 0 i = 0 then (if S 46 0 i = S 45 0 i then 97 else 116) else S 49 0 i : Int32) = 97 by rw [if_pos h6, if_pos h7]) hq9) (fun _ => ?_)
          refine j_iconst (v := 1) cx dL_agrees_158 (by decide) (pc' := 159) rfl ?_
          refine j_goto (tgt := 163) cx dL_agrees_159 (by decide) ?_
          refine j_istore_n (lv' := [(2, .int 1), (0, .ref (al 0 0)), (1, .ref (al 40 0)), (3, .int (nI i))]) cx dL_agrees_163 rfl (by decide) rfl (pc' := 164) rfl ?_
          refine j_iconst (v := 0) cx dL_agrees_164 (by decide) (pc' := 165) rfl ?_
          refine j_istore (lv' := [(4, .int 0), (2, .int 1), (0, .ref (al 0 0)), (1, .ref (al 40 0)), (3, .int (nI i))]) cx dL_agrees_165 (by decide) rfl (pc' := 167) rfl ?_
          refine J.sub [2, 3, 1, 4, 0] rfl (J.widen (k := 11 + 10 * i + 2 * 0) (n := 66 + 60 * i + 12 * 0) (by omega) (by omega) ?_)
          exact loop3 4 0 rfl
      · refine j_aload_n (j := 1) cx dL_agrees_124 rfl rfl (pc' := 125) rfl ?_
        refine j_getN (fk := 8) (v := .ref (al 49 0)) cx rfl hK.1 inB_L_agrees (by decide) (by decide) rfl (yV_r (k := (49, 0)) rfl) rfl dL_agrees_125 (pc' := 128) rfl ?_
        refine j_iload_n (j := 3) cx dL_agrees_128 rfl rfl (pc' := 129) rfl ?_
        refine j_cald (v := S 49 0 i) cx hK.2.2.2.2.2.2.2.1 rfl (vp_in_nI (by omega) (by decide)) (by rw [(nI_clamp (by omega))]) rfl dL_agrees_129 (pc' := 130) rfl ?_
        refine j_goto (tgt := 155) cx dL_agrees_130 (by decide) ?_
        refine j_icmp_ne (tgt := 162) cx dL_agrees_155 (by decide) (pc' := 158) rfl (fun hq9 => by first | exact absurd hq9 (if_neg h6) | exact absurd (if_neg h6) hq9) (fun _ => ?_)
        refine j_iconst (v := 1) cx dL_agrees_158 (by decide) (pc' := 159) rfl ?_
        refine j_goto (tgt := 163) cx dL_agrees_159 (by decide) ?_
        refine j_istore_n (lv' := [(2, .int 1), (0, .ref (al 0 0)), (1, .ref (al 40 0)), (3, .int (nI i))]) cx dL_agrees_163 rfl (by decide) rfl (pc' := 164) rfl ?_
        refine j_iconst (v := 0) cx dL_agrees_164 (by decide) (pc' := 165) rfl ?_
        refine j_istore (lv' := [(4, .int 0), (2, .int 1), (0, .ref (al 0 0)), (1, .ref (al 40 0)), (3, .int (nI i))]) cx dL_agrees_165 (by decide) rfl (pc' := 167) rfl ?_
        refine J.sub [2, 3, 1, 4, 0] rfl (J.widen (k := 11 + 10 * i + 2 * 0) (n := 66 + 60 * i + 12 * 0) (by omega) (by omega) ?_)
        exact loop3 4 0 rfl
  have loop1 : ∀ (k d : Nat), d + k = 4 → J p_ l e_ ({ frames := 8, cells := 411, slots := 2466, locals := 134 }) s_ m_ (([.ref (al 0 0), .ref (al 40 0)] : List Value).toArray) below_ meth_ c_ 5 Z (1 + 2 * d) (6 + 12 * d) (MQ below_ (Qn Z (yR al sh (some (.int 1)) S)) (([.ref (al 0 0), .ref (al 40 0)] : List Value).toArray) s_ 411 2466 (yF Z)) al sh S 34 [(0, .ref (al 0 0)), (1, .ref (al 40 0)), (2, .int 1), (3, .int (nI d))] [] := by
    intro k
    induction k with
    | zero =>
      intro d hdk
      have hdk2 : d = 4 := by omega
      rw [hdk2]
      refine j_iload_n (j := 3) cx dL_agrees_34 rfl rfl (pc' := 35) rfl ?_
      refine j_iconst (v := 4) cx dL_agrees_35 (by decide) (pc' := 36) rfl ?_
      refine j_icmp_ge (tgt := 83) cx dL_agrees_36 (by decide) (pc' := 39) rfl (fun _ => ?_) (fun hq9 => by first | exact absurd hq9 (show (4 : Int32) ≤ nI 4 by decide) | exact absurd (show (4 : Int32) ≤ nI 4 by decide) hq9)
      refine j_iconst (v := 0) cx dL_agrees_83 (by decide) (pc' := 84) rfl ?_
      refine j_istore_n (lv' := [(3, .int 0), (0, .ref (al 0 0)), (1, .ref (al 40 0)), (2, .int 1)]) cx dL_agrees_84 rfl (by decide) rfl (pc' := 85) rfl ?_
      exact J.sub [1, 2, 3, 0] rfl (J.widen (k := 9 + 10 * 0) (n := 54 + 60 * 0) (by omega) (by omega) (loop2 ns 0 (by omega)))
    | succ k ih =>
      intro d hdk
      have hd : d < 4 := by omega
      refine j_iload_n (j := 3) cx dL_agrees_34 rfl rfl (pc' := 35) rfl ?_
      refine j_iconst (v := 4) cx dL_agrees_35 (by decide) (pc' := 36) rfl ?_
      refine j_icmp_ge (tgt := 83) cx dL_agrees_36 (by decide) (pc' := 39) rfl (fun hq9 => by first | exact absurd hq9 (nI_ge4 hd) | exact absurd (nI_ge4 hd) hq9) (fun _ => ?_)
      refine j_iload_n (j := 2) cx dL_agrees_39 rfl rfl (pc' := 40) rfl ?_
      refine j_if_eq (tgt := 83) cx dL_agrees_40 (by decide) (pc' := 43) rfl (fun h => absurd h (by decide)) (fun _ => ?_)
      refine j_aload_n (j := 0) cx dL_agrees_43 rfl rfl (pc' := 44) rfl ?_
      refine j_iload_n (j := 3) cx dL_agrees_44 rfl rfl (pc' := 45) rfl ?_
      refine j_cVR (cells1 := 1 + 2 * d + 1) (slots1 := 6 + 12 * d + 6) (st1 := [.int (S 41 0 d)]) (As := [.int (nI d)]) (rest := []) cx (n_min hl0 hY h hd) gL_agrees_X2_minutes rfl rfl rfl 1 rfl (by decide +kernel) ⟨Nat.le_of_ble_eq_true rfl, Nat.le_of_ble_eq_true rfl⟩ hY.1 rfl rfl rfl rfl (Nat.le_of_ble_eq_true rfl) dL_agrees_45 ⟨(by dsimp only; omega), (by dsimp only; omega)⟩ (pc' := 48) rfl rfl rfl rfl ?_
      refine j_aload_n (j := 1) cx dL_agrees_48 rfl rfl (pc' := 49) rfl ?_
      refine j_getN (fk := 0) (v := .ref (al 41 0)) cx rfl hK.1 inB_L_agrees (by decide) (by decide) rfl (yV_r (k := (41, 0)) rfl) rfl dL_agrees_49 (pc' := 52) rfl ?_
      refine j_iload_n (j := 3) cx dL_agrees_52 rfl rfl (pc' := 53) rfl ?_
      refine j_iald (v := S 41 0 d) cx hK.2.1 rfl (vp_in_nI hd (by decide)) (by rw [(nI_clamp (by omega))]) rfl dL_agrees_53 (pc' := 54) rfl ?_
      refine j_icmp_ne (tgt := 75) cx dL_agrees_54 (by decide) (pc' := 57) rfl (fun hq9 => by first | exact absurd hq9 rfl | exact absurd rfl hq9) (fun _ => ?_)
      refine j_aload_n (j := 0) cx dL_agrees_57 rfl rfl (pc' := 58) rfl ?_
      refine j_iload_n (j := 3) cx dL_agrees_58 rfl rfl (pc' := 59) rfl ?_
      refine j_cVR (cells1 := 1 + 2 * d + 1 + 1) (slots1 := 6 + 12 * d + 6 + 6) (st1 := [.int (S 41 0 d)]) (As := [.int (nI d)]) (rest := []) cx (n_mbs hl0 hY h hd) gL_agrees_X2_minutesBySessions rfl rfl rfl 1 rfl (by decide +kernel) ⟨Nat.le_of_ble_eq_true rfl, Nat.le_of_ble_eq_true rfl⟩ hY.1 rfl rfl rfl rfl (Nat.le_of_ble_eq_true rfl) dL_agrees_59 ⟨(by dsimp only; omega), (by dsimp only; omega)⟩ (pc' := 62) rfl rfl rfl rfl ?_
      refine j_aload_n (j := 1) cx dL_agrees_62 rfl rfl (pc' := 63) rfl ?_
      refine j_getN (fk := 0) (v := .ref (al 41 0)) cx rfl hK.1 inB_L_agrees (by decide) (by decide) rfl (yV_r (k := (41, 0)) rfl) rfl dL_agrees_63 (pc' := 66) rfl ?_
      refine j_iload_n (j := 3) cx dL_agrees_66 rfl rfl (pc' := 67) rfl ?_
      refine j_iald (v := S 41 0 d) cx hK.2.1 rfl (vp_in_nI hd (by decide)) (by rw [(nI_clamp (by omega))]) rfl dL_agrees_67 (pc' := 68) rfl ?_
      refine j_icmp_ne (tgt := 75) cx dL_agrees_68 (by decide) (pc' := 71) rfl (fun hq9 => by first | exact absurd hq9 rfl | exact absurd rfl hq9) (fun _ => ?_)
      refine j_iconst (v := 1) cx dL_agrees_71 (by decide) (pc' := 72) rfl ?_
      refine j_goto (tgt := 76) cx dL_agrees_72 (by decide) ?_
      refine j_istore_n (lv' := [(2, .int 1), (0, .ref (al 0 0)), (1, .ref (al 40 0)), (3, .int (nI d))]) cx dL_agrees_76 rfl (by decide) rfl (pc' := 77) rfl ?_
      refine j_iinc (j := 3) (v := nI (d + 1)) (lv' := [(3, .int (nI (d + 1))), (2, .int 1), (0, .ref (al 0 0)), (1, .ref (al 40 0))]) cx dL_agrees_77 rfl (nI_1 d) (by decide) rfl (pc' := 80) rfl ?_
      refine j_goto (tgt := 34) cx dL_agrees_80 (by decide) ?_
      exact J.sub [2, 3, 1, 0] rfl (J.widen (k := 1 + 2 * (d + 1)) (n := 6 + 12 * (d + 1)) (by omega) (by omega) (ih (d + 1) (by omega)))
  refine j_aload_n (j := 0) cx dL_agrees_0 rfl rfl (pc' := 1) rfl ?_
  refine j_cVR (cells1 := 0) (slots1 := 0) (st1 := [.int (S 40 0 13)]) (As := []) (rest := []) cx (n_time hl0 hY h) gL_agrees_X2_time rfl rfl rfl 0 rfl (by decide +kernel) ⟨Nat.le_of_ble_eq_true rfl, Nat.le_of_ble_eq_true rfl⟩ hY.1 rfl rfl rfl rfl (Nat.le_of_ble_eq_true rfl) dL_agrees_1 ⟨(Nat.le_of_ble_eq_true rfl), (Nat.le_of_ble_eq_true rfl)⟩ (pc' := 4) rfl rfl rfl rfl ?_
  refine j_aload_n (j := 1) cx dL_agrees_4 rfl rfl (pc' := 5) rfl ?_
  refine j_getN (fk := 13) (v := .int (S 40 0 13)) cx rfl hK.1 inB_L_agrees (by decide) (by decide) rfl (yV_i rfl) rfl dL_agrees_5 (pc' := 8) rfl ?_
  refine j_icmp_ne (tgt := 30) cx dL_agrees_8 (by decide) (pc' := 11) rfl (fun hq9 => by first | exact absurd hq9 rfl | exact absurd rfl hq9) (fun _ => ?_)
  refine j_aload_n (j := 0) cx dL_agrees_11 rfl rfl (pc' := 12) rfl ?_
  refine j_iconst (v := 0) cx dL_agrees_12 (by decide) (pc' := 13) rfl ?_
  refine j_cVR (cells1 := 1) (slots1 := 6) (st1 := [.int (12 - (bLiv S 0 0 ns))]) (As := [.int 0]) (rest := []) cx (n_free hl0 hY h) gL_agrees_X2_free rfl rfl rfl 1 rfl (by decide +kernel) ⟨Nat.le_of_ble_eq_true rfl, Nat.le_of_ble_eq_true rfl⟩ hY.1 rfl rfl rfl rfl (Nat.le_of_ble_eq_true rfl) dL_agrees_13 ⟨(Nat.le_of_ble_eq_true rfl), (Nat.le_of_ble_eq_true rfl)⟩ (pc' := 16) rfl rfl rfl rfl ?_
  refine j_bipush (v := 12) cx dL_agrees_16 (by decide) (pc' := 18) rfl ?_
  refine j_aload_n (j := 1) cx dL_agrees_18 rfl rfl (pc' := 19) rfl ?_
  refine j_cVR (cells1 := 1) (slots1 := 6) (st1 := [.int (bLiv S 0 0 ns), .int 12, .int (12 - (bLiv S 0 0 ns))]) (As := []) (rest := [.int 12, .int (12 - (bLiv S 0 0 ns))]) cx (c_X3_live hK h.bi) gL_agrees_X3_live rfl rfl rfl 0 rfl (by decide +kernel) ⟨Nat.le_of_ble_eq_true rfl, Nat.le_of_ble_eq_true rfl⟩ hK.1 rfl rfl rfl rfl (Nat.le_of_ble_eq_true rfl) dL_agrees_19 ⟨(Nat.le_of_ble_eq_true rfl), (Nat.le_of_ble_eq_true rfl)⟩ (pc' := 22) rfl rfl rfl rfl ?_
  refine j_isub cx dL_agrees_22 (pc' := 23) rfl ?_
  refine j_icmp_ne (tgt := 30) cx dL_agrees_23 (by decide) (pc' := 26) rfl (fun hq9 => by first | exact absurd hq9 rfl | exact absurd rfl hq9) (fun _ => ?_)
  refine j_iconst (v := 1) cx dL_agrees_26 (by decide) (pc' := 27) rfl ?_
  refine j_goto (tgt := 31) cx dL_agrees_27 (by decide) ?_
  refine j_istore_n (lv' := [(2, .int 1), (0, .ref (al 0 0)), (1, .ref (al 40 0))]) cx dL_agrees_31 rfl (by decide) rfl (pc' := 32) rfl ?_
  refine j_iconst (v := 0) cx dL_agrees_32 (by decide) (pc' := 33) rfl ?_
  refine j_istore_n (lv' := [(3, .int 0), (2, .int 1), (0, .ref (al 0 0)), (1, .ref (al 40 0))]) cx dL_agrees_33 rfl (by decide) rfl (pc' := 34) rfl ?_
  exact J.sub [2, 3, 1, 0] rfl (J.widen (k := 1 + 2 * 0) (n := 6 + 12 * 0) (by omega) (by omega) (loop1 4 0 rfl))
