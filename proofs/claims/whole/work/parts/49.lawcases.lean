/-! THE LAW: each call, class and reference -/
section WCASES
variable {E : wE} {p : Program} {l : Launch} {e : Env} {s : State} {m : MethodId} {below : List Frame} {meth : Method} {c : Code} {b : Nat} {ad : Nat → Nat} {V : wV} {L : Nat} {xs : Nat → Int32}
theorem lc_type (hX : w_Lx p s m meth c b L xs) (hL : L ≤ 2048) {k B : Nat} (hk : 4 * k + 4 ≤ L) (hB : B < 2 ^ 30) (inv : INV V B) (Kt : ∀ V', INV V' (B + 1) → Wl E p l e s m below meth c b 71 950 726 [(3, .int (nI (4 * k))), (2, .ref (ad 53)), (1, .ref (ad 0)), (0, .ref b)] [] SX ad V') : Wl E p l e s m below meth c b 71 950 144 [(3, .int (nI (4 * k))), (2, .ref (ad 53)), (1, .ref (ad 0)), (0, .ref b)] [] SX ad V := by
  obtain ⟨n, tt, nb, ln, lt, col, siz, sg, hn, hi, im, kp, q, sk, sv, cl, ml, dis⟩ := inv
  refine Wl_aload_n hX dL_law_144 rfl 2 rfl ?_
  refine Wl_aload_n hX dL_law_145 rfl 3 rfl ?_
  refine Wl_iload_n hX dL_law_146 rfl 0 rfl ?_
  refine Wl_iconst hX (v := nI 1) dL_law_147 (by decide) ?_
  refine Wl_iadd hX (z := nI (4 * k + 1)) dL_law_148 (nI_add _ _) ?_
  refine Wl_sld hX (n := 4 * k + 1) (y := xs (4 * k + 1)) rfl (by omega) (by omega) rfl dL_law_149 ?_
  refine Wl_call hX (c_X8_type cl (xs (4 * k + 1))) YV_X8_type ml_L_13 sx_0 rfl dL_law_150 (by decide) (by decide) (by decide) (by decide) rfl rfl (Nat.le_of_ble_eq_true rfl) (fun r1 V1 h1 => ?_)
  obtain ⟨e1, cl1, fr1⟩ := h1
  have ml1 := ml.hi fr1
  refine Wl_aload_n hX dL_law_153 rfl 1 rfl ?_
  refine Wl_aload_n hX dL_law_154 rfl 3 rfl ?_
  refine Wl_iload_n hX dL_law_155 rfl 0 rfl ?_
  refine Wl_iconst hX (v := nI 1) dL_law_156 (by decide) ?_
  refine Wl_iadd hX (z := nI (4 * k + 1)) dL_law_157 (nI_add _ _) ?_
  refine Wl_sld hX (n := 4 * k + 1) (y := xs (4 * k + 1)) rfl (by omega) (by omega) rfl dL_law_158 ?_
  refine Wl_call hX (c_X9_type ml1 (xs (4 * k + 1))) YV_X9_type ml_L_17 sx_53 rfl dL_law_159 (by decide) (by decide) (by decide) (by decide) rfl rfl (Nat.le_of_ble_eq_true rfl) (fun r2 V2 h2 => ?_)
  obtain ⟨e2, ml2, fr2⟩ := h2
  have cl2 := cl1.lo fr2
  have er := e1.trans e2.symm
  have iv := INV.mk (C := B + 1) cl2 ml2 dis (by omega)
  exact Wl_icmp_eq hX (tgt := 726) dL_law_162 (by decide) rfl rfl (fun _ => Kt _ iv) (fun w => absurd (congrArg Int32.toInt er) w)
theorem lc_clear (hX : w_Lx p s m meth c b L xs) (hL : L ≤ 2048) {k B : Nat} (hk : 4 * k + 4 ≤ L) (hB : B < 2 ^ 30) (inv : INV V B) (Kt : ∀ V', INV V' (B + 1) → Wl E p l e s m below meth c b 71 950 726 [(3, .int (nI (4 * k))), (2, .ref (ad 53)), (1, .ref (ad 0)), (0, .ref b)] [] SX ad V') : Wl E p l e s m below meth c b 71 950 167 [(3, .int (nI (4 * k))), (2, .ref (ad 53)), (1, .ref (ad 0)), (0, .ref b)] [] SX ad V := by
  obtain ⟨n, tt, nb, ln, lt, col, siz, sg, hn, hi, im, kp, q, sk, sv, cl, ml, dis⟩ := inv
  refine Wl_aload_n hX dL_law_167 rfl 2 rfl ?_
  refine Wl_call hX (c_X8_clear cl) YV_X8_clear ml_L_18 sx_0 rfl dL_law_168 (by decide) (by decide) (by decide) (by decide) rfl rfl (Nat.le_of_ble_eq_true rfl) (fun r1 V1 h1 => ?_)
  obtain ⟨e1, cl1, fr1⟩ := h1
  have ml1 := ml.hi fr1
  refine Wl_aload_n hX dL_law_171 rfl 1 rfl ?_
  refine Wl_call hX (c_X9_clear ml1) YV_X9_clear ml_L_22 sx_53 rfl dL_law_172 (by decide) (by decide) (by decide) (by decide) rfl rfl (Nat.le_of_ble_eq_true rfl) (fun r2 V2 h2 => ?_)
  obtain ⟨e2, ml2, fr2⟩ := h2
  have cl2 := cl1.lo fr2
  have er := e1.trans e2.symm
  have iv := INV.mk (C := B + 1) cl2 ml2 dis (by omega)
  exact Wl_icmp_eq hX (tgt := 726) dL_law_175 (by decide) rfl rfl (fun _ => Kt _ iv) (fun w => absurd (congrArg Int32.toInt er) w)
theorem lc_book (hX : w_Lx p s m meth c b L xs) (hL : L ≤ 2048) {k B : Nat} (hk : 4 * k + 4 ≤ L) (hB : B < 2 ^ 30) (inv : INV V B) (Kt : ∀ V', INV V' (B + 1) → Wl E p l e s m below meth c b 71 950 726 [(3, .int (nI (4 * k))), (2, .ref (ad 53)), (1, .ref (ad 0)), (0, .ref b)] [] SX ad V') : Wl E p l e s m below meth c b 71 950 180 [(3, .int (nI (4 * k))), (2, .ref (ad 53)), (1, .ref (ad 0)), (0, .ref b)] [] SX ad V := by
  obtain ⟨n, tt, nb, ln, lt, col, siz, sg, hn, hi, im, kp, q, sk, sv, cl, ml, dis⟩ := inv
  refine Wl_aload_n hX dL_law_180 rfl 2 rfl ?_
  refine Wl_call hX (c_X8_book cl) YV_X8_book ml_L_23 sx_0 rfl dL_law_181 (by decide) (by decide) (by decide) (by decide) rfl rfl (Nat.le_of_ble_eq_true rfl) (fun r1 V1 h1 => ?_)
  obtain ⟨d1, fr1⟩ := h1
  have ml1 := ml.hi fr1
  refine Wl_aload_n hX dL_law_184 rfl 1 rfl ?_
  refine Wl_call hX (c_X9_book ml1) YV_X9_book ml_L_26 sx_53 rfl dL_law_185 (by decide) (by decide) (by decide) (by decide) rfl rfl (Nat.le_of_ble_eq_true rfl) (fun r2 V2 h2 => ?_)
  obtain ⟨d2, fr2⟩ := h2
  have both : r1 = r2 ∧ INV V2 (B + 1) := by
    rcases d1 with ⟨a1, e1, cl1⟩ | ⟨a1, e1, cl1⟩ <;> rcases d2 with ⟨a2, e2, ml2⟩ | ⟨a2, e2, ml2⟩
    · exact ⟨e1.trans e2.symm, INV.mk (cl1.lo fr2) ml2 dis (by omega)⟩
    · rw [a1] at a2; cases a2
    · rw [a1] at a2; cases a2
    · exact ⟨e1.trans e2.symm, INV.mk (cl1.lo fr2) ml2 (DIS_pAll _ _ _ _ (fun s t _ ht => absurd ht (Nat.not_lt_zero t))) (by omega)⟩
  have er := both.1
  have iv := both.2
  exact Wl_icmp_eq hX (tgt := 726) dL_law_188 (by decide) rfl rfl (fun _ => Kt _ iv) (fun w => absurd (congrArg Int32.toInt er) w)
theorem lc_flag (hX : w_Lx p s m meth c b L xs) (hL : L ≤ 2048) {k B : Nat} (hk : 4 * k + 4 ≤ L) (hB : B < 2 ^ 30) (inv : INV V B) (Kt : ∀ V', INV V' (B + 1) → Wl E p l e s m below meth c b 71 950 726 [(3, .int (nI (4 * k))), (2, .ref (ad 53)), (1, .ref (ad 0)), (0, .ref b)] [] SX ad V') : Wl E p l e s m below meth c b 71 950 193 [(3, .int (nI (4 * k))), (2, .ref (ad 53)), (1, .ref (ad 0)), (0, .ref b)] [] SX ad V := by
  obtain ⟨n, tt, nb, ln, lt, col, siz, sg, hn, hi, im, kp, q, sk, sv, cl, ml, dis⟩ := inv
  refine Wl_aload_n hX dL_law_193 rfl 2 rfl ?_
  refine Wl_aload_n hX dL_law_194 rfl 3 rfl ?_
  refine Wl_iload_n hX dL_law_195 rfl 0 rfl ?_
  refine Wl_iconst hX (v := nI 1) dL_law_196 (by decide) ?_
  refine Wl_iadd hX (z := nI (4 * k + 1)) dL_law_197 (nI_add _ _) ?_
  refine Wl_sld hX (n := 4 * k + 1) (y := xs (4 * k + 1)) rfl (by omega) (by omega) rfl dL_law_198 ?_
  refine Wl_aload_n hX dL_law_199 rfl 3 rfl ?_
  refine Wl_iload_n hX dL_law_200 rfl 0 rfl ?_
  refine Wl_iconst hX (v := nI 2) dL_law_201 (by decide) ?_
  refine Wl_iadd hX (z := nI (4 * k + 2)) dL_law_202 (nI_add _ _) ?_
  refine Wl_sld hX (n := 4 * k + 2) (y := xs (4 * k + 2)) rfl (by omega) (by omega) rfl dL_law_203 ?_
  refine Wl_call hX (c_X8_flag cl (xs (4 * k + 1)) (xs (4 * k + 2))) YV_X8_flag ml_L_27 sx_0 rfl dL_law_204 (by decide) (by decide) (by decide) (by decide) rfl rfl (Nat.le_of_ble_eq_true rfl) (fun r1 V1 h1 => ?_)
  obtain ⟨e1, v1⟩ := h1
  rw [v1]
  refine Wl_aload_n hX dL_law_207 rfl 1 rfl ?_
  refine Wl_aload_n hX dL_law_208 rfl 3 rfl ?_
  refine Wl_iload_n hX dL_law_209 rfl 0 rfl ?_
  refine Wl_iconst hX (v := nI 1) dL_law_210 (by decide) ?_
  refine Wl_iadd hX (z := nI (4 * k + 1)) dL_law_211 (nI_add _ _) ?_
  refine Wl_sld hX (n := 4 * k + 1) (y := xs (4 * k + 1)) rfl (by omega) (by omega) rfl dL_law_212 ?_
  refine Wl_aload_n hX dL_law_213 rfl 3 rfl ?_
  refine Wl_iload_n hX dL_law_214 rfl 0 rfl ?_
  refine Wl_iconst hX (v := nI 2) dL_law_215 (by decide) ?_
  refine Wl_iadd hX (z := nI (4 * k + 2)) dL_law_216 (nI_add _ _) ?_
  refine Wl_sld hX (n := 4 * k + 2) (y := xs (4 * k + 2)) rfl (by omega) (by omega) rfl dL_law_217 ?_
  refine Wl_call hX (c_X9_flag ml (xs (4 * k + 1)) (xs (4 * k + 2))) YV_X9_flag ml_L_31 sx_53 rfl dL_law_218 (by decide) (by decide) (by decide) (by decide) rfl rfl (Nat.le_of_ble_eq_true rfl) (fun r2 V2 h2 => ?_)
  obtain ⟨e2, v2⟩ := h2
  rw [v2]
  have er := e1.trans e2.symm
  have iv := INV.mk (C := B + 1) cl ml dis (by omega)
  exact Wl_icmp_eq hX (tgt := 726) dL_law_221 (by decide) rfl rfl (fun _ => Kt _ iv) (fun w => absurd (congrArg Int32.toInt er) w)
theorem lc_code (hX : w_Lx p s m meth c b L xs) (hL : L ≤ 2048) {k B : Nat} (hk : 4 * k + 4 ≤ L) (hB : B < 2 ^ 30) (inv : INV V B) (Kt : ∀ V', INV V' (B + 1) → Wl E p l e s m below meth c b 71 950 726 [(3, .int (nI (4 * k))), (2, .ref (ad 53)), (1, .ref (ad 0)), (0, .ref b)] [] SX ad V') : Wl E p l e s m below meth c b 71 950 226 [(3, .int (nI (4 * k))), (2, .ref (ad 53)), (1, .ref (ad 0)), (0, .ref b)] [] SX ad V := by
  obtain ⟨n, tt, nb, ln, lt, col, siz, sg, hn, hi, im, kp, q, sk, sv, cl, ml, dis⟩ := inv
  refine Wl_aload_n hX dL_law_226 rfl 2 rfl ?_
  refine Wl_aload_n hX dL_law_227 rfl 3 rfl ?_
  refine Wl_iload_n hX dL_law_228 rfl 0 rfl ?_
  refine Wl_iconst hX (v := nI 1) dL_law_229 (by decide) ?_
  refine Wl_iadd hX (z := nI (4 * k + 1)) dL_law_230 (nI_add _ _) ?_
  refine Wl_sld hX (n := 4 * k + 1) (y := xs (4 * k + 1)) rfl (by omega) (by omega) rfl dL_law_231 ?_
  refine Wl_aload_n hX dL_law_232 rfl 3 rfl ?_
  refine Wl_iload_n hX dL_law_233 rfl 0 rfl ?_
  refine Wl_iconst hX (v := nI 2) dL_law_234 (by decide) ?_
  refine Wl_iadd hX (z := nI (4 * k + 2)) dL_law_235 (nI_add _ _) ?_
  refine Wl_sld hX (n := 4 * k + 2) (y := xs (4 * k + 2)) rfl (by omega) (by omega) rfl dL_law_236 ?_
  refine Wl_call hX (c_X8_code cl (xs (4 * k + 1)) (xs (4 * k + 2))) YV_X8_code ml_L_32 sx_0 rfl dL_law_237 (by decide) (by decide) (by decide) (by decide) rfl rfl (Nat.le_of_ble_eq_true rfl) (fun r1 V1 h1 => ?_)
  obtain ⟨e1, v1⟩ := h1
  rw [v1]
  refine Wl_aload_n hX dL_law_240 rfl 1 rfl ?_
  refine Wl_aload_n hX dL_law_241 rfl 3 rfl ?_
  refine Wl_iload_n hX dL_law_242 rfl 0 rfl ?_
  refine Wl_iconst hX (v := nI 1) dL_law_243 (by decide) ?_
  refine Wl_iadd hX (z := nI (4 * k + 1)) dL_law_244 (nI_add _ _) ?_
  refine Wl_sld hX (n := 4 * k + 1) (y := xs (4 * k + 1)) rfl (by omega) (by omega) rfl dL_law_245 ?_
  refine Wl_aload_n hX dL_law_246 rfl 3 rfl ?_
  refine Wl_iload_n hX dL_law_247 rfl 0 rfl ?_
  refine Wl_iconst hX (v := nI 2) dL_law_248 (by decide) ?_
  refine Wl_iadd hX (z := nI (4 * k + 2)) dL_law_249 (nI_add _ _) ?_
  refine Wl_sld hX (n := 4 * k + 2) (y := xs (4 * k + 2)) rfl (by omega) (by omega) rfl dL_law_250 ?_
  refine Wl_call hX (c_X9_code ml (xs (4 * k + 1)) (xs (4 * k + 2))) YV_X9_code ml_L_35 sx_53 rfl dL_law_251 (by decide) (by decide) (by decide) (by decide) rfl rfl (Nat.le_of_ble_eq_true rfl) (fun r2 V2 h2 => ?_)
  obtain ⟨e2, v2⟩ := h2
  rw [v2]
  have er := e1.trans e2.symm
  have iv := INV.mk (C := B + 1) cl ml dis (by omega)
  exact Wl_icmp_eq hX (tgt := 726) dL_law_254 (by decide) rfl rfl (fun _ => Kt _ iv) (fun w => absurd (congrArg Int32.toInt er) w)
theorem lc_sorted (hX : w_Lx p s m meth c b L xs) (hL : L ≤ 2048) {k B : Nat} (hk : 4 * k + 4 ≤ L) (hB : B < 2 ^ 30) (inv : INV V B) (Kt : ∀ V', INV V' (B + 1) → Wl E p l e s m below meth c b 71 950 726 [(3, .int (nI (4 * k))), (2, .ref (ad 53)), (1, .ref (ad 0)), (0, .ref b)] [] SX ad V') : Wl E p l e s m below meth c b 71 950 259 [(3, .int (nI (4 * k))), (2, .ref (ad 53)), (1, .ref (ad 0)), (0, .ref b)] [] SX ad V := by
  obtain ⟨n, tt, nb, ln, lt, col, siz, sg, hn, hi, im, kp, q, sk, sv, cl, ml, dis⟩ := inv
  refine Wl_aload_n hX dL_law_259 rfl 2 rfl ?_
  refine Wl_aload_n hX dL_law_260 rfl 3 rfl ?_
  refine Wl_iload_n hX dL_law_261 rfl 0 rfl ?_
  refine Wl_iconst hX (v := nI 1) dL_law_262 (by decide) ?_
  refine Wl_iadd hX (z := nI (4 * k + 1)) dL_law_263 (nI_add _ _) ?_
  refine Wl_sld hX (n := 4 * k + 1) (y := xs (4 * k + 1)) rfl (by omega) (by omega) rfl dL_law_264 ?_
  refine Wl_call hX (c_X8_sorted cl (xs (4 * k + 1))) YV_X8_sorted ml_L_36 sx_0 rfl dL_law_265 (by decide) (by decide) (by decide) (by decide) rfl rfl (Nat.le_of_ble_eq_true rfl) (fun r1 V1 h1 => ?_)
  obtain ⟨d1, v1⟩ := h1
  rw [v1]
  refine Wl_aload_n hX dL_law_268 rfl 1 rfl ?_
  refine Wl_aload_n hX dL_law_269 rfl 3 rfl ?_
  refine Wl_iload_n hX dL_law_270 rfl 0 rfl ?_
  refine Wl_iconst hX (v := nI 1) dL_law_271 (by decide) ?_
  refine Wl_iadd hX (z := nI (4 * k + 1)) dL_law_272 (nI_add _ _) ?_
  refine Wl_sld hX (n := 4 * k + 1) (y := xs (4 * k + 1)) rfl (by omega) (by omega) rfl dL_law_273 ?_
  refine Wl_call hX (c_X9_sorted ml (xs (4 * k + 1))) YV_X9_sorted ml_L_39 sx_53 rfl dL_law_274 (by decide) (by decide) (by decide) (by decide) rfl rfl (Nat.le_of_ble_eq_true rfl) (fun r2 V2 h2 => ?_)
  obtain ⟨d2, v2⟩ := h2
  rw [v2]
  have wf := ml.wfc
  have er : r1 = r2 := by
    rcases d1 with ⟨a1, e1⟩ | ⟨a1, F, e1, f1⟩ <;> rcases d2 with ⟨a2, e2⟩ | ⟨a2, G, e2, f2⟩
    · rw [e1, e2]
    · exfalso; omega
    · exfalso; omega
    · rw [e1, e2, rkF_uniq (nin_inj wf dis) (rkF_tr wf f1) f2]
  have iv := INV.mk (C := B + 1) cl ml dis (by omega)
  exact Wl_icmp_eq hX (tgt := 726) dL_law_277 (by decide) rfl rfl (fun _ => Kt _ iv) (fun w => absurd (congrArg Int32.toInt er) w)
theorem lc_first (hX : w_Lx p s m meth c b L xs) (hL : L ≤ 2048) {k B : Nat} (hk : 4 * k + 4 ≤ L) (hB : B < 2 ^ 30) (inv : INV V B) (Kt : ∀ V', INV V' (B + 1) → Wl E p l e s m below meth c b 71 950 726 [(3, .int (nI (4 * k))), (2, .ref (ad 53)), (1, .ref (ad 0)), (0, .ref b)] [] SX ad V') : Wl E p l e s m below meth c b 71 950 282 [(3, .int (nI (4 * k))), (2, .ref (ad 53)), (1, .ref (ad 0)), (0, .ref b)] [] SX ad V := by
  obtain ⟨n, tt, nb, ln, lt, col, siz, sg, hn, hi, im, kp, q, sk, sv, cl, ml, dis⟩ := inv
  refine Wl_aload_n hX dL_law_282 rfl 2 rfl ?_
  refine Wl_aload_n hX dL_law_283 rfl 3 rfl ?_
  refine Wl_iload_n hX dL_law_284 rfl 0 rfl ?_
  refine Wl_iconst hX (v := nI 1) dL_law_285 (by decide) ?_
  refine Wl_iadd hX (z := nI (4 * k + 1)) dL_law_286 (nI_add _ _) ?_
  refine Wl_sld hX (n := 4 * k + 1) (y := xs (4 * k + 1)) rfl (by omega) (by omega) rfl dL_law_287 ?_
  refine Wl_call hX (c_X8_first cl (xs (4 * k + 1))) YV_X8_first ml_L_40 sx_0 rfl dL_law_288 (by decide) (by decide) (by decide) (by decide) rfl rfl (Nat.le_of_ble_eq_true rfl) (fun r1 V1 h1 => ?_)
  obtain ⟨d1, v1⟩ := h1
  rw [v1]
  refine Wl_aload_n hX dL_law_291 rfl 1 rfl ?_
  refine Wl_aload_n hX dL_law_292 rfl 3 rfl ?_
  refine Wl_iload_n hX dL_law_293 rfl 0 rfl ?_
  refine Wl_iconst hX (v := nI 1) dL_law_294 (by decide) ?_
  refine Wl_iadd hX (z := nI (4 * k + 1)) dL_law_295 (nI_add _ _) ?_
  refine Wl_sld hX (n := 4 * k + 1) (y := xs (4 * k + 1)) rfl (by omega) (by omega) rfl dL_law_296 ?_
  refine Wl_call hX (c_X9_first ml (xs (4 * k + 1))) YV_X9_first ml_L_43 sx_53 rfl dL_law_297 (by decide) (by decide) (by decide) (by decide) rfl rfl (Nat.le_of_ble_eq_true rfl) (fun r2 V2 h2 => ?_)
  obtain ⟨d2, v2⟩ := h2
  rw [v2]
  have wf := ml.wfc
  have er : r1 = r2 := by
    rcases d1 with ⟨a1, e1⟩ | ⟨a1, F, e1, f1⟩ <;> rcases d2 with ⟨a2, e2⟩ | ⟨a2, G, e2, f2⟩
    · rw [e1, e2]
    · exfalso; omega
    · exfalso; omega
    · rw [e1, e2, rkF_uniq (nin_inj wf dis) (ffd_rk wf f1) f2]
  have iv := INV.mk (C := B + 1) cl ml dis (by omega)
  exact Wl_icmp_eq hX (tgt := 726) dL_law_300 (by decide) rfl rfl (fun _ => Kt _ iv) (fun w => absurd (congrArg Int32.toInt er) w)
theorem lc_puts (hX : w_Lx p s m meth c b L xs) (hL : L ≤ 2048) {k B : Nat} (hk : 4 * k + 4 ≤ L) (hB : B < 2 ^ 30) (inv : INV V B) (Kt : ∀ V', INV V' (B + 1) → Wl E p l e s m below meth c b 71 950 726 [(3, .int (nI (4 * k))), (2, .ref (ad 53)), (1, .ref (ad 0)), (0, .ref b)] [] SX ad V') : Wl E p l e s m below meth c b 71 950 305 [(3, .int (nI (4 * k))), (2, .ref (ad 53)), (1, .ref (ad 0)), (0, .ref b)] [] SX ad V := by
  obtain ⟨n, tt, nb, ln, lt, col, siz, sg, hn, hi, im, kp, q, sk, sv, cl, ml, dis⟩ := inv
  refine Wl_aload_n hX dL_law_305 rfl 2 rfl ?_
  refine Wl_aload_n hX dL_law_306 rfl 3 rfl ?_
  refine Wl_iload_n hX dL_law_307 rfl 0 rfl ?_
  refine Wl_iconst hX (v := nI 1) dL_law_308 (by decide) ?_
  refine Wl_iadd hX (z := nI (4 * k + 1)) dL_law_309 (nI_add _ _) ?_
  refine Wl_sld hX (n := 4 * k + 1) (y := xs (4 * k + 1)) rfl (by omega) (by omega) rfl dL_law_310 ?_
  refine Wl_aload_n hX dL_law_311 rfl 3 rfl ?_
  refine Wl_iload_n hX dL_law_312 rfl 0 rfl ?_
  refine Wl_iconst hX (v := nI 2) dL_law_313 (by decide) ?_
  refine Wl_iadd hX (z := nI (4 * k + 2)) dL_law_314 (nI_add _ _) ?_
  refine Wl_sld hX (n := 4 * k + 2) (y := xs (4 * k + 2)) rfl (by omega) (by omega) rfl dL_law_315 ?_
  refine Wl_call hX (c_X8_puts cl (xs (4 * k + 1)) (xs (4 * k + 2))) YV_X8_puts ml_L_44 sx_0 rfl dL_law_316 (by decide) (by decide) (by decide) (by decide) rfl rfl (Nat.le_of_ble_eq_true rfl) (fun r1 V1 h1 => ?_)
  obtain ⟨e1, cl1, fr1⟩ := h1
  have ml1 := ml.hi fr1
  refine Wl_aload_n hX dL_law_319 rfl 1 rfl ?_
  refine Wl_aload_n hX dL_law_320 rfl 3 rfl ?_
  refine Wl_iload_n hX dL_law_321 rfl 0 rfl ?_
  refine Wl_iconst hX (v := nI 1) dL_law_322 (by decide) ?_
  refine Wl_iadd hX (z := nI (4 * k + 1)) dL_law_323 (nI_add _ _) ?_
  refine Wl_sld hX (n := 4 * k + 1) (y := xs (4 * k + 1)) rfl (by omega) (by omega) rfl dL_law_324 ?_
  refine Wl_aload_n hX dL_law_325 rfl 3 rfl ?_
  refine Wl_iload_n hX dL_law_326 rfl 0 rfl ?_
  refine Wl_iconst hX (v := nI 2) dL_law_327 (by decide) ?_
  refine Wl_iadd hX (z := nI (4 * k + 2)) dL_law_328 (nI_add _ _) ?_
  refine Wl_sld hX (n := 4 * k + 2) (y := xs (4 * k + 2)) rfl (by omega) (by omega) rfl dL_law_329 ?_
  refine Wl_call hX (c_X9_puts ml1 (xs (4 * k + 1)) (xs (4 * k + 2))) YV_X9_puts ml_L_47 sx_53 rfl dL_law_330 (by decide) (by decide) (by decide) (by decide) rfl rfl (Nat.le_of_ble_eq_true rfl) (fun r2 V2 h2 => ?_)
  obtain ⟨e2, ml2, fr2⟩ := h2
  have cl2 := cl1.lo fr2
  have er := e1.trans e2.symm
  have iv := INV.mk (C := B + 1) cl2 ml2 dis (by omega)
  exact Wl_icmp_eq hX (tgt := 726) dL_law_333 (by decide) rfl rfl (fun _ => Kt _ iv) (fun w => absurd (congrArg Int32.toInt er) w)
theorem lc_takes (hX : w_Lx p s m meth c b L xs) (hL : L ≤ 2048) {k B : Nat} (hk : 4 * k + 4 ≤ L) (hB : B < 2 ^ 30) (inv : INV V B) (Kt : ∀ V', INV V' (B + 1) → Wl E p l e s m below meth c b 71 950 726 [(3, .int (nI (4 * k))), (2, .ref (ad 53)), (1, .ref (ad 0)), (0, .ref b)] [] SX ad V') : Wl E p l e s m below meth c b 71 950 338 [(3, .int (nI (4 * k))), (2, .ref (ad 53)), (1, .ref (ad 0)), (0, .ref b)] [] SX ad V := by
  obtain ⟨n, tt, nb, ln, lt, col, siz, sg, hn, hi, im, kp, q, sk, sv, cl, ml, dis⟩ := inv
  refine Wl_aload_n hX dL_law_338 rfl 2 rfl ?_
  refine Wl_aload_n hX dL_law_339 rfl 3 rfl ?_
  refine Wl_iload_n hX dL_law_340 rfl 0 rfl ?_
  refine Wl_iconst hX (v := nI 1) dL_law_341 (by decide) ?_
  refine Wl_iadd hX (z := nI (4 * k + 1)) dL_law_342 (nI_add _ _) ?_
  refine Wl_sld hX (n := 4 * k + 1) (y := xs (4 * k + 1)) rfl (by omega) (by omega) rfl dL_law_343 ?_
  refine Wl_call hX (c_X8_takes cl (xs (4 * k + 1))) YV_X8_takes ml_L_48 sx_0 rfl dL_law_344 (by decide) (by decide) (by decide) (by decide) rfl rfl (Nat.le_of_ble_eq_true rfl) (fun r1 V1 h1 => ?_)
  obtain ⟨e1, cl1, fr1⟩ := h1
  have ml1 := ml.hi fr1
  refine Wl_aload_n hX dL_law_347 rfl 1 rfl ?_
  refine Wl_aload_n hX dL_law_348 rfl 3 rfl ?_
  refine Wl_iload_n hX dL_law_349 rfl 0 rfl ?_
  refine Wl_iconst hX (v := nI 1) dL_law_350 (by decide) ?_
  refine Wl_iadd hX (z := nI (4 * k + 1)) dL_law_351 (nI_add _ _) ?_
  refine Wl_sld hX (n := 4 * k + 1) (y := xs (4 * k + 1)) rfl (by omega) (by omega) rfl dL_law_352 ?_
  refine Wl_call hX (c_X9_takes ml1 (xs (4 * k + 1))) YV_X9_takes ml_L_51 sx_53 rfl dL_law_353 (by decide) (by decide) (by decide) (by decide) rfl rfl (Nat.le_of_ble_eq_true rfl) (fun r2 V2 h2 => ?_)
  obtain ⟨e2, ml2, fr2⟩ := h2
  have cl2 := cl1.lo fr2
  have er := e1.trans e2.symm
  have iv := INV.mk (C := B + 1) cl2 ml2 dis (by omega)
  exact Wl_icmp_eq hX (tgt := 726) dL_law_356 (by decide) rfl rfl (fun _ => Kt _ iv) (fun w => absurd (congrArg Int32.toInt er) w)
theorem lc_places (hX : w_Lx p s m meth c b L xs) (hL : L ≤ 2048) {k B : Nat} (hk : 4 * k + 4 ≤ L) (hB : B < 2 ^ 30) (inv : INV V B) (Kt : ∀ V', INV V' (B + 1) → Wl E p l e s m below meth c b 71 950 726 [(3, .int (nI (4 * k))), (2, .ref (ad 53)), (1, .ref (ad 0)), (0, .ref b)] [] SX ad V') : Wl E p l e s m below meth c b 71 950 361 [(3, .int (nI (4 * k))), (2, .ref (ad 53)), (1, .ref (ad 0)), (0, .ref b)] [] SX ad V := by
  obtain ⟨n, tt, nb, ln, lt, col, siz, sg, hn, hi, im, kp, q, sk, sv, cl, ml, dis⟩ := inv
  refine Wl_aload_n hX dL_law_361 rfl 2 rfl ?_
  refine Wl_aload_n hX dL_law_362 rfl 3 rfl ?_
  refine Wl_iload_n hX dL_law_363 rfl 0 rfl ?_
  refine Wl_iconst hX (v := nI 1) dL_law_364 (by decide) ?_
  refine Wl_iadd hX (z := nI (4 * k + 1)) dL_law_365 (nI_add _ _) ?_
  refine Wl_sld hX (n := 4 * k + 1) (y := xs (4 * k + 1)) rfl (by omega) (by omega) rfl dL_law_366 ?_
  refine Wl_call hX (c_X8_places cl (xs (4 * k + 1))) YV_X8_places ml_L_52 sx_0 rfl dL_law_367 (by decide) (by decide) (by decide) (by decide) rfl rfl (Nat.le_of_ble_eq_true rfl) (fun r1 V1 h1 => ?_)
  obtain ⟨e1, cl1, fr1⟩ := h1
  have ml1 := ml.hi fr1
  refine Wl_aload_n hX dL_law_370 rfl 1 rfl ?_
  refine Wl_aload_n hX dL_law_371 rfl 3 rfl ?_
  refine Wl_iload_n hX dL_law_372 rfl 0 rfl ?_
  refine Wl_iconst hX (v := nI 1) dL_law_373 (by decide) ?_
  refine Wl_iadd hX (z := nI (4 * k + 1)) dL_law_374 (nI_add _ _) ?_
  refine Wl_sld hX (n := 4 * k + 1) (y := xs (4 * k + 1)) rfl (by omega) (by omega) rfl dL_law_375 ?_
  refine Wl_call hX (c_X9_places ml1 (xs (4 * k + 1))) YV_X9_places ml_L_55 sx_53 rfl dL_law_376 (by decide) (by decide) (by decide) (by decide) rfl rfl (Nat.le_of_ble_eq_true rfl) (fun r2 V2 h2 => ?_)
  obtain ⟨e2, ml2, fr2⟩ := h2
  have cl2 := cl1.lo fr2
  have er := e1.trans e2.symm
  have iv := INV.mk (C := B + 1) cl2 ml2 dis (by omega)
  exact Wl_icmp_eq hX (tgt := 726) dL_law_379 (by decide) rfl rfl (fun _ => Kt _ iv) (fun w => absurd (congrArg Int32.toInt er) w)
theorem lc_sends (hX : w_Lx p s m meth c b L xs) (hL : L ≤ 2048) {k B : Nat} (hk : 4 * k + 4 ≤ L) (hB : B < 2 ^ 30) (inv : INV V B) (Kt : ∀ V', INV V' (B + 1) → Wl E p l e s m below meth c b 71 950 726 [(3, .int (nI (4 * k))), (2, .ref (ad 53)), (1, .ref (ad 0)), (0, .ref b)] [] SX ad V') : Wl E p l e s m below meth c b 71 950 384 [(3, .int (nI (4 * k))), (2, .ref (ad 53)), (1, .ref (ad 0)), (0, .ref b)] [] SX ad V := by
  obtain ⟨n, tt, nb, ln, lt, col, siz, sg, hn, hi, im, kp, q, sk, sv, cl, ml, dis⟩ := inv
  refine Wl_aload_n hX dL_law_384 rfl 2 rfl ?_
  refine Wl_call hX (c_X8_sends cl hB) YV_X8_sends ml_L_56 sx_0 rfl dL_law_385 (by decide) (by decide) (by decide) (by decide) rfl rfl (Nat.le_of_ble_eq_true rfl) (fun r1 V1 h1 => ?_)
  obtain ⟨md, H, st, cu, e1, cl1, fr1⟩ := h1
  have ml1 := ml.hi fr1
  refine Wl_aload_n hX dL_law_388 rfl 1 rfl ?_
  refine Wl_call hX (c_X9_sends ml1 hB) YV_X9_sends ml_L_59 sx_53 rfl dL_law_389 (by decide) (by decide) (by decide) (by decide) rfl rfl (Nat.le_of_ble_eq_true rfl) (fun r2 V2 h2 => ?_)
  obtain ⟨md', H', st', cu', e2, ml2, fr2⟩ := h2
  obtain ⟨x1, x2, _⟩ := CUTS_uniq cu cu'
  rw [← x1, ← x2] at ml2 e2
  have cl2 := cl1.lo fr2
  have er := e1.trans e2.symm
  have iv := INV.mk (C := B + 1) cl2 ml2 dis (by omega)
  exact Wl_icmp_eq hX (tgt := 726) dL_law_392 (by decide) rfl rfl (fun _ => Kt _ iv) (fun w => absurd (congrArg Int32.toInt er) w)
theorem lc_answers (hX : w_Lx p s m meth c b L xs) (hL : L ≤ 2048) {k B : Nat} (hk : 4 * k + 4 ≤ L) (hB : B < 2 ^ 30) (inv : INV V B) (Kt : ∀ V', INV V' (B + 1) → Wl E p l e s m below meth c b 71 950 726 [(3, .int (nI (4 * k))), (2, .ref (ad 53)), (1, .ref (ad 0)), (0, .ref b)] [] SX ad V') : Wl E p l e s m below meth c b 71 950 397 [(3, .int (nI (4 * k))), (2, .ref (ad 53)), (1, .ref (ad 0)), (0, .ref b)] [] SX ad V := by
  obtain ⟨n, tt, nb, ln, lt, col, siz, sg, hn, hi, im, kp, q, sk, sv, cl, ml, dis⟩ := inv
  refine Wl_aload_n hX dL_law_397 rfl 2 rfl ?_
  refine Wl_aload_n hX dL_law_398 rfl 3 rfl ?_
  refine Wl_iload_n hX dL_law_399 rfl 0 rfl ?_
  refine Wl_iconst hX (v := nI 1) dL_law_400 (by decide) ?_
  refine Wl_iadd hX (z := nI (4 * k + 1)) dL_law_401 (nI_add _ _) ?_
  refine Wl_sld hX (n := 4 * k + 1) (y := xs (4 * k + 1)) rfl (by omega) (by omega) rfl dL_law_402 ?_
  refine Wl_call hX (c_X8_answers cl hB (xs (4 * k + 1))) YV_X8_answers ml_L_60 sx_0 rfl dL_law_403 (by decide) (by decide) (by decide) (by decide) rfl rfl (Nat.le_of_ble_eq_true rfl) (fun r1 V1 h1 => ?_)
  obtain ⟨e1, cl1, fr1⟩ := h1
  have ml1 := ml.hi fr1
  refine Wl_aload_n hX dL_law_406 rfl 1 rfl ?_
  refine Wl_aload_n hX dL_law_407 rfl 3 rfl ?_
  refine Wl_iload_n hX dL_law_408 rfl 0 rfl ?_
  refine Wl_iconst hX (v := nI 1) dL_law_409 (by decide) ?_
  refine Wl_iadd hX (z := nI (4 * k + 1)) dL_law_410 (nI_add _ _) ?_
  refine Wl_sld hX (n := 4 * k + 1) (y := xs (4 * k + 1)) rfl (by omega) (by omega) rfl dL_law_411 ?_
  refine Wl_call hX (c_X9_answers ml1 hB (xs (4 * k + 1))) YV_X9_answers ml_L_63 sx_53 rfl dL_law_412 (by decide) (by decide) (by decide) (by decide) rfl rfl (Nat.le_of_ble_eq_true rfl) (fun r2 V2 h2 => ?_)
  obtain ⟨e2, ml2, fr2⟩ := h2
  have cl2 := cl1.lo fr2
  have er := e1.trans e2.symm
  have iv := INV.mk (C := B + 1) cl2 ml2 dis (by omega)
  exact Wl_icmp_eq hX (tgt := 726) dL_law_415 (by decide) rfl rfl (fun _ => Kt _ iv) (fun w => absurd (congrArg Int32.toInt er) w)
theorem lc_undo (hX : w_Lx p s m meth c b L xs) (hL : L ≤ 2048) {k B : Nat} (hk : 4 * k + 4 ≤ L) (hB : B < 2 ^ 30) (inv : INV V B) (Kt : ∀ V', INV V' (B + 1) → Wl E p l e s m below meth c b 71 950 726 [(3, .int (nI (4 * k))), (2, .ref (ad 53)), (1, .ref (ad 0)), (0, .ref b)] [] SX ad V') : Wl E p l e s m below meth c b 71 950 420 [(3, .int (nI (4 * k))), (2, .ref (ad 53)), (1, .ref (ad 0)), (0, .ref b)] [] SX ad V := by
  obtain ⟨n, tt, nb, ln, lt, col, siz, sg, hn, hi, im, kp, q, sk, sv, cl, ml, dis⟩ := inv
  refine Wl_aload_n hX dL_law_420 rfl 2 rfl ?_
  refine Wl_call hX (c_X8_undo cl) YV_X8_undo ml_L_64 sx_0 rfl dL_law_421 (by decide) (by decide) (by decide) (by decide) rfl rfl (Nat.le_of_ble_eq_true rfl) (fun r1 V1 h1 => ?_)
  obtain ⟨e1, cl1, fr1⟩ := h1
  have ml1 := ml.hi fr1
  refine Wl_aload_n hX dL_law_424 rfl 1 rfl ?_
  refine Wl_call hX (c_X9_undo ml1) YV_X9_undo ml_L_67 sx_53 rfl dL_law_425 (by decide) (by decide) (by decide) (by decide) rfl rfl (Nat.le_of_ble_eq_true rfl) (fun r2 V2 h2 => ?_)
  obtain ⟨e2, ml2, fr2⟩ := h2
  have cl2 := cl1.lo fr2
  have er := e1.trans e2.symm
  have iv := INV.mk (C := B + 1) cl2 ml2 dis (by omega)
  exact Wl_icmp_eq hX (tgt := 726) dL_law_428 (by decide) rfl rfl (fun _ => Kt _ iv) (fun w => absurd (congrArg Int32.toInt er) w)
theorem lc_message (hX : w_Lx p s m meth c b L xs) (hL : L ≤ 2048) {k B : Nat} (hk : 4 * k + 4 ≤ L) (hB : B < 2 ^ 30) (inv : INV V B) (Kt : ∀ V', INV V' (B + 1) → Wl E p l e s m below meth c b 71 950 726 [(3, .int (nI (4 * k))), (2, .ref (ad 53)), (1, .ref (ad 0)), (0, .ref b)] [] SX ad V') : Wl E p l e s m below meth c b 71 950 433 [(3, .int (nI (4 * k))), (2, .ref (ad 53)), (1, .ref (ad 0)), (0, .ref b)] [] SX ad V := by
  obtain ⟨n, tt, nb, ln, lt, col, siz, sg, hn, hi, im, kp, q, sk, sv, cl, ml, dis⟩ := inv
  refine Wl_aload_n hX dL_law_433 rfl 2 rfl ?_
  refine Wl_aload_n hX dL_law_434 rfl 3 rfl ?_
  refine Wl_iload_n hX dL_law_435 rfl 0 rfl ?_
  refine Wl_iconst hX (v := nI 1) dL_law_436 (by decide) ?_
  refine Wl_iadd hX (z := nI (4 * k + 1)) dL_law_437 (nI_add _ _) ?_
  refine Wl_sld hX (n := 4 * k + 1) (y := xs (4 * k + 1)) rfl (by omega) (by omega) rfl dL_law_438 ?_
  refine Wl_call hX (c_X8_message cl (xs (4 * k + 1))) YV_X8_message ml_L_68 sx_0 rfl dL_law_439 (by decide) (by decide) (by decide) (by decide) rfl rfl (Nat.le_of_ble_eq_true rfl) (fun r1 V1 h1 => ?_)
  obtain ⟨e1, v1⟩ := h1
  rw [v1]
  refine Wl_aload_n hX dL_law_442 rfl 1 rfl ?_
  refine Wl_aload_n hX dL_law_443 rfl 3 rfl ?_
  refine Wl_iload_n hX dL_law_444 rfl 0 rfl ?_
  refine Wl_iconst hX (v := nI 1) dL_law_445 (by decide) ?_
  refine Wl_iadd hX (z := nI (4 * k + 1)) dL_law_446 (nI_add _ _) ?_
  refine Wl_sld hX (n := 4 * k + 1) (y := xs (4 * k + 1)) rfl (by omega) (by omega) rfl dL_law_447 ?_
  refine Wl_call hX (c_X9_message ml (xs (4 * k + 1))) YV_X9_message ml_L_71 sx_53 rfl dL_law_448 (by decide) (by decide) (by decide) (by decide) rfl rfl (Nat.le_of_ble_eq_true rfl) (fun r2 V2 h2 => ?_)
  obtain ⟨e2, v2⟩ := h2
  rw [v2]
  have er := e1.trans e2.symm
  have iv := INV.mk (C := B + 1) cl ml dis (by omega)
  exact Wl_icmp_eq hX (tgt := 726) dL_law_451 (by decide) rfl rfl (fun _ => Kt _ iv) (fun w => absurd (congrArg Int32.toInt er) w)
theorem lc_hoist (hX : w_Lx p s m meth c b L xs) (hL : L ≤ 2048) {k B : Nat} (hk : 4 * k + 4 ≤ L) (hB : B < 2 ^ 30) (inv : INV V B) (Kt : ∀ V', INV V' (B + 1) → Wl E p l e s m below meth c b 71 950 726 [(3, .int (nI (4 * k))), (2, .ref (ad 53)), (1, .ref (ad 0)), (0, .ref b)] [] SX ad V') : Wl E p l e s m below meth c b 71 950 456 [(3, .int (nI (4 * k))), (2, .ref (ad 53)), (1, .ref (ad 0)), (0, .ref b)] [] SX ad V := by
  obtain ⟨n, tt, nb, ln, lt, col, siz, sg, hn, hi, im, kp, q, sk, sv, cl, ml, dis⟩ := inv
  refine Wl_aload_n hX dL_law_456 rfl 2 rfl ?_
  refine Wl_aload_n hX dL_law_457 rfl 3 rfl ?_
  refine Wl_iload_n hX dL_law_458 rfl 0 rfl ?_
  refine Wl_iconst hX (v := nI 1) dL_law_459 (by decide) ?_
  refine Wl_iadd hX (z := nI (4 * k + 1)) dL_law_460 (nI_add _ _) ?_
  refine Wl_sld hX (n := 4 * k + 1) (y := xs (4 * k + 1)) rfl (by omega) (by omega) rfl dL_law_461 ?_
  refine Wl_aload_n hX dL_law_462 rfl 3 rfl ?_
  refine Wl_iload_n hX dL_law_463 rfl 0 rfl ?_
  refine Wl_iconst hX (v := nI 2) dL_law_464 (by decide) ?_
  refine Wl_iadd hX (z := nI (4 * k + 2)) dL_law_465 (nI_add _ _) ?_
  refine Wl_sld hX (n := 4 * k + 2) (y := xs (4 * k + 2)) rfl (by omega) (by omega) rfl dL_law_466 ?_
  refine Wl_call hX (c_X8_hoist cl hB (xs (4 * k + 1)) (xs (4 * k + 2))) YV_X8_hoist ml_L_72 sx_0 rfl dL_law_467 (by decide) (by decide) (by decide) (by decide) rfl rfl (Nat.le_of_ble_eq_true rfl) (fun r1 V1 h1 => ?_)
  obtain ⟨d1, cl1, fr1⟩ := h1
  have ml1 := ml.hi fr1
  refine Wl_aload_n hX dL_law_470 rfl 1 rfl ?_
  refine Wl_aload_n hX dL_law_471 rfl 3 rfl ?_
  refine Wl_iload_n hX dL_law_472 rfl 0 rfl ?_
  refine Wl_iconst hX (v := nI 1) dL_law_473 (by decide) ?_
  refine Wl_iadd hX (z := nI (4 * k + 1)) dL_law_474 (nI_add _ _) ?_
  refine Wl_sld hX (n := 4 * k + 1) (y := xs (4 * k + 1)) rfl (by omega) (by omega) rfl dL_law_475 ?_
  refine Wl_aload_n hX dL_law_476 rfl 3 rfl ?_
  refine Wl_iload_n hX dL_law_477 rfl 0 rfl ?_
  refine Wl_iconst hX (v := nI 2) dL_law_478 (by decide) ?_
  refine Wl_iadd hX (z := nI (4 * k + 2)) dL_law_479 (nI_add _ _) ?_
  refine Wl_sld hX (n := 4 * k + 2) (y := xs (4 * k + 2)) rfl (by omega) (by omega) rfl dL_law_480 ?_
  refine Wl_call hX (c_X9_hoist ml1 (xs (4 * k + 1)) (xs (4 * k + 2))) YV_X9_hoist ml_L_75 sx_53 rfl dL_law_481 (by decide) (by decide) (by decide) (by decide) rfl rfl (Nat.le_of_ble_eq_true rfl) (fun r2 V2 h2 => ?_)
  obtain ⟨d2, ml2, fr2⟩ := h2
  have cl2 := cl1.lo fr2
  have er : r1 = r2 := by
    rcases d1 with ⟨a1, e1⟩ | ⟨a1, md, H, st, cu, e1⟩ <;> rcases d2 with ⟨a2, e2⟩ | ⟨a2, md', H', st', cu', e2⟩
    · rw [e1, e2]
    · exact absurd a2 a1
    · exact absurd a1 a2
    · rw [e1, e2]; exact hoR_eq cu cu' (G := fun a z => hGet sg.2.2.1 ln lt (del sg.1 8) a z)
  have iv := INV.mk (C := B + 1) cl2 ml2 dis (by omega)
  exact Wl_icmp_eq hX (tgt := 726) dL_law_484 (by decide) rfl rfl (fun _ => Kt _ iv) (fun w => absurd (congrArg Int32.toInt er) w)
theorem lc_thing (hX : w_Lx p s m meth c b L xs) (hL : L ≤ 2048) {k B : Nat} (hk : 4 * k + 4 ≤ L) (hB : B < 2 ^ 30) (inv : INV V B) (Kt : ∀ V', INV V' (B + 1) → Wl E p l e s m below meth c b 71 950 726 [(3, .int (nI (4 * k))), (2, .ref (ad 53)), (1, .ref (ad 0)), (0, .ref b)] [] SX ad V') : Wl E p l e s m below meth c b 71 950 489 [(3, .int (nI (4 * k))), (2, .ref (ad 53)), (1, .ref (ad 0)), (0, .ref b)] [] SX ad V := by
  obtain ⟨n, tt, nb, ln, lt, col, siz, sg, hn, hi, im, kp, q, sk, sv, cl, ml, dis⟩ := inv
  refine Wl_aload_n hX dL_law_489 rfl 2 rfl ?_
  refine Wl_aload_n hX dL_law_490 rfl 3 rfl ?_
  refine Wl_iload_n hX dL_law_491 rfl 0 rfl ?_
  refine Wl_iconst hX (v := nI 1) dL_law_492 (by decide) ?_
  refine Wl_iadd hX (z := nI (4 * k + 1)) dL_law_493 (nI_add _ _) ?_
  refine Wl_sld hX (n := 4 * k + 1) (y := xs (4 * k + 1)) rfl (by omega) (by omega) rfl dL_law_494 ?_
  refine Wl_aload_n hX dL_law_495 rfl 3 rfl ?_
  refine Wl_iload_n hX dL_law_496 rfl 0 rfl ?_
  refine Wl_iconst hX (v := nI 2) dL_law_497 (by decide) ?_
  refine Wl_iadd hX (z := nI (4 * k + 2)) dL_law_498 (nI_add _ _) ?_
  refine Wl_sld hX (n := 4 * k + 2) (y := xs (4 * k + 2)) rfl (by omega) (by omega) rfl dL_law_499 ?_
  refine Wl_call hX (c_X8_thing cl hB (xs (4 * k + 1)) (xs (4 * k + 2))) YV_X8_thing ml_L_76 sx_0 rfl dL_law_500 (by decide) (by decide) (by decide) (by decide) rfl rfl (Nat.le_of_ble_eq_true rfl) (fun r1 V1 h1 => ?_)
  obtain ⟨d1, cl1, fr1⟩ := h1
  have ml1 := ml.hi fr1
  refine Wl_aload_n hX dL_law_503 rfl 1 rfl ?_
  refine Wl_aload_n hX dL_law_504 rfl 3 rfl ?_
  refine Wl_iload_n hX dL_law_505 rfl 0 rfl ?_
  refine Wl_iconst hX (v := nI 1) dL_law_506 (by decide) ?_
  refine Wl_iadd hX (z := nI (4 * k + 1)) dL_law_507 (nI_add _ _) ?_
  refine Wl_sld hX (n := 4 * k + 1) (y := xs (4 * k + 1)) rfl (by omega) (by omega) rfl dL_law_508 ?_
  refine Wl_aload_n hX dL_law_509 rfl 3 rfl ?_
  refine Wl_iload_n hX dL_law_510 rfl 0 rfl ?_
  refine Wl_iconst hX (v := nI 2) dL_law_511 (by decide) ?_
  refine Wl_iadd hX (z := nI (4 * k + 2)) dL_law_512 (nI_add _ _) ?_
  refine Wl_sld hX (n := 4 * k + 2) (y := xs (4 * k + 2)) rfl (by omega) (by omega) rfl dL_law_513 ?_
  refine Wl_call hX (c_X9_thing ml1 (xs (4 * k + 1)) (xs (4 * k + 2))) YV_X9_thing ml_L_79 sx_53 rfl dL_law_514 (by decide) (by decide) (by decide) (by decide) rfl rfl (Nat.le_of_ble_eq_true rfl) (fun r2 V2 h2 => ?_)
  obtain ⟨d2, ml2, fr2⟩ := h2
  have cl2 := cl1.lo fr2
  have er : r1 = r2 := by
    rcases d1 with ⟨a1, e1⟩ | ⟨a1, md, H, st, cu, e1⟩ <;> rcases d2 with ⟨a2, e2⟩ | ⟨a2, md', H', st', cu', e2⟩
    · rw [e1, e2]
    · exact absurd a2 a1
    · exact absurd a1 a2
    · rw [e1, e2]; exact thR_eq cu cu' (G := fun a z => hGet sg.2.2.1 ln lt (del sg.1 8) a z)
  have iv := INV.mk (C := B + 1) cl2 ml2 dis (by omega)
  exact Wl_icmp_eq hX (tgt := 726) dL_law_517 (by decide) rfl rfl (fun _ => Kt _ iv) (fun w => absurd (congrArg Int32.toInt er) w)
theorem lc_told (hX : w_Lx p s m meth c b L xs) (hL : L ≤ 2048) {k B : Nat} (hk : 4 * k + 4 ≤ L) (hB : B < 2 ^ 30) (inv : INV V B) (Kt : ∀ V', INV V' (B + 1) → Wl E p l e s m below meth c b 71 950 726 [(3, .int (nI (4 * k))), (2, .ref (ad 53)), (1, .ref (ad 0)), (0, .ref b)] [] SX ad V') : Wl E p l e s m below meth c b 71 950 522 [(3, .int (nI (4 * k))), (2, .ref (ad 53)), (1, .ref (ad 0)), (0, .ref b)] [] SX ad V := by
  obtain ⟨n, tt, nb, ln, lt, col, siz, sg, hn, hi, im, kp, q, sk, sv, cl, ml, dis⟩ := inv
  refine Wl_aload_n hX dL_law_522 rfl 2 rfl ?_
  refine Wl_aload_n hX dL_law_523 rfl 3 rfl ?_
  refine Wl_iload_n hX dL_law_524 rfl 0 rfl ?_
  refine Wl_iconst hX (v := nI 1) dL_law_525 (by decide) ?_
  refine Wl_iadd hX (z := nI (4 * k + 1)) dL_law_526 (nI_add _ _) ?_
  refine Wl_sld hX (n := 4 * k + 1) (y := xs (4 * k + 1)) rfl (by omega) (by omega) rfl dL_law_527 ?_
  refine Wl_aload_n hX dL_law_528 rfl 3 rfl ?_
  refine Wl_iload_n hX dL_law_529 rfl 0 rfl ?_
  refine Wl_iconst hX (v := nI 2) dL_law_530 (by decide) ?_
  refine Wl_iadd hX (z := nI (4 * k + 2)) dL_law_531 (nI_add _ _) ?_
  refine Wl_sld hX (n := 4 * k + 2) (y := xs (4 * k + 2)) rfl (by omega) (by omega) rfl dL_law_532 ?_
  refine Wl_aload_n hX dL_law_533 rfl 3 rfl ?_
  refine Wl_iload_n hX dL_law_534 rfl 0 rfl ?_
  refine Wl_iconst hX (v := nI 3) dL_law_535 (by decide) ?_
  refine Wl_iadd hX (z := nI (4 * k + 3)) dL_law_536 (nI_add _ _) ?_
  refine Wl_sld hX (n := 4 * k + 3) (y := xs (4 * k + 3)) rfl (by omega) (by omega) rfl dL_law_537 ?_
  refine Wl_call hX (c_X8_told cl (xs (4 * k + 1)) (xs (4 * k + 2)) (xs (4 * k + 3))) YV_X8_told ml_L_80 sx_0 rfl dL_law_538 (by decide) (by decide) (by decide) (by decide) rfl rfl (Nat.le_of_ble_eq_true rfl) (fun r1 V1 h1 => ?_)
  obtain ⟨e1, v1⟩ := h1
  rw [v1]
  refine Wl_aload_n hX dL_law_541 rfl 1 rfl ?_
  refine Wl_aload_n hX dL_law_542 rfl 3 rfl ?_
  refine Wl_iload_n hX dL_law_543 rfl 0 rfl ?_
  refine Wl_iconst hX (v := nI 1) dL_law_544 (by decide) ?_
  refine Wl_iadd hX (z := nI (4 * k + 1)) dL_law_545 (nI_add _ _) ?_
  refine Wl_sld hX (n := 4 * k + 1) (y := xs (4 * k + 1)) rfl (by omega) (by omega) rfl dL_law_546 ?_
  refine Wl_aload_n hX dL_law_547 rfl 3 rfl ?_
  refine Wl_iload_n hX dL_law_548 rfl 0 rfl ?_
  refine Wl_iconst hX (v := nI 2) dL_law_549 (by decide) ?_
  refine Wl_iadd hX (z := nI (4 * k + 2)) dL_law_550 (nI_add _ _) ?_
  refine Wl_sld hX (n := 4 * k + 2) (y := xs (4 * k + 2)) rfl (by omega) (by omega) rfl dL_law_551 ?_
  refine Wl_aload_n hX dL_law_552 rfl 3 rfl ?_
  refine Wl_iload_n hX dL_law_553 rfl 0 rfl ?_
  refine Wl_iconst hX (v := nI 3) dL_law_554 (by decide) ?_
  refine Wl_iadd hX (z := nI (4 * k + 3)) dL_law_555 (nI_add _ _) ?_
  refine Wl_sld hX (n := 4 * k + 3) (y := xs (4 * k + 3)) rfl (by omega) (by omega) rfl dL_law_556 ?_
  refine Wl_call hX (c_X9_told ml (xs (4 * k + 1)) (xs (4 * k + 2)) (xs (4 * k + 3))) YV_X9_told ml_L_84 sx_53 rfl dL_law_557 (by decide) (by decide) (by decide) (by decide) rfl rfl (Nat.le_of_ble_eq_true rfl) (fun r2 V2 h2 => ?_)
  obtain ⟨e2, v2⟩ := h2
  rw [v2]
  have er := e1.trans e2.symm
  have iv := INV.mk (C := B + 1) cl ml dis (by omega)
  exact Wl_icmp_eq hX (tgt := 726) dL_law_560 (by decide) rfl rfl (fun _ => Kt _ iv) (fun w => absurd (congrArg Int32.toInt er) w)
theorem lc_meanings (hX : w_Lx p s m meth c b L xs) (hL : L ≤ 2048) {k B : Nat} (hk : 4 * k + 4 ≤ L) (hB : B < 2 ^ 30) (inv : INV V B) (Kt : ∀ V', INV V' (B + 1) → Wl E p l e s m below meth c b 71 950 726 [(3, .int (nI (4 * k))), (2, .ref (ad 53)), (1, .ref (ad 0)), (0, .ref b)] [] SX ad V') : Wl E p l e s m below meth c b 71 950 565 [(3, .int (nI (4 * k))), (2, .ref (ad 53)), (1, .ref (ad 0)), (0, .ref b)] [] SX ad V := by
  obtain ⟨n, tt, nb, ln, lt, col, siz, sg, hn, hi, im, kp, q, sk, sv, cl, ml, dis⟩ := inv
  refine Wl_aload_n hX dL_law_565 rfl 2 rfl ?_
  refine Wl_aload_n hX dL_law_566 rfl 3 rfl ?_
  refine Wl_iload_n hX dL_law_567 rfl 0 rfl ?_
  refine Wl_iconst hX (v := nI 1) dL_law_568 (by decide) ?_
  refine Wl_iadd hX (z := nI (4 * k + 1)) dL_law_569 (nI_add _ _) ?_
  refine Wl_sld hX (n := 4 * k + 1) (y := xs (4 * k + 1)) rfl (by omega) (by omega) rfl dL_law_570 ?_
  refine Wl_aload_n hX dL_law_571 rfl 3 rfl ?_
  refine Wl_iload_n hX dL_law_572 rfl 0 rfl ?_
  refine Wl_iconst hX (v := nI 2) dL_law_573 (by decide) ?_
  refine Wl_iadd hX (z := nI (4 * k + 2)) dL_law_574 (nI_add _ _) ?_
  refine Wl_sld hX (n := 4 * k + 2) (y := xs (4 * k + 2)) rfl (by omega) (by omega) rfl dL_law_575 ?_
  refine Wl_call hX (c_X8_meanings cl hB (xs (4 * k + 1)) (xs (4 * k + 2))) YV_X8_meanings ml_L_85 sx_0 rfl dL_law_576 (by decide) (by decide) (by decide) (by decide) rfl rfl (Nat.le_of_ble_eq_true rfl) (fun r1 V1 h1 => ?_)
  obtain ⟨d1, cl1, fr1⟩ := h1
  have ml1 := ml.hi fr1
  refine Wl_aload_n hX dL_law_579 rfl 1 rfl ?_
  refine Wl_aload_n hX dL_law_580 rfl 3 rfl ?_
  refine Wl_iload_n hX dL_law_581 rfl 0 rfl ?_
  refine Wl_iconst hX (v := nI 1) dL_law_582 (by decide) ?_
  refine Wl_iadd hX (z := nI (4 * k + 1)) dL_law_583 (nI_add _ _) ?_
  refine Wl_sld hX (n := 4 * k + 1) (y := xs (4 * k + 1)) rfl (by omega) (by omega) rfl dL_law_584 ?_
  refine Wl_aload_n hX dL_law_585 rfl 3 rfl ?_
  refine Wl_iload_n hX dL_law_586 rfl 0 rfl ?_
  refine Wl_iconst hX (v := nI 2) dL_law_587 (by decide) ?_
  refine Wl_iadd hX (z := nI (4 * k + 2)) dL_law_588 (nI_add _ _) ?_
  refine Wl_sld hX (n := 4 * k + 2) (y := xs (4 * k + 2)) rfl (by omega) (by omega) rfl dL_law_589 ?_
  refine Wl_call hX (c_X9_meanings ml1 (xs (4 * k + 1)) (xs (4 * k + 2))) YV_X9_meanings ml_L_88 sx_53 rfl dL_law_590 (by decide) (by decide) (by decide) (by decide) rfl rfl (Nat.le_of_ble_eq_true rfl) (fun r2 V2 h2 => ?_)
  obtain ⟨d2, ml2, fr2⟩ := h2
  have cl2 := cl1.lo fr2
  have er : r1 = r2 := by
    rcases d1 with ⟨a1, e1⟩ | ⟨a1, md, H, st, cu, e1⟩ <;> rcases d2 with ⟨a2, e2⟩ | ⟨a2, md', H', st', cu', e2⟩
    · rw [e1, e2]
    · exact absurd a2 a1
    · exact absurd a1 a2
    · rw [e1, e2]; exact mnR_eq cu cu' (G := fun a z => prd (fun i => lkd (tld col siz ln lt (cn (xs (4 * k + 2))) ((del sg.1 8) i)) nb) a z)
  have iv := INV.mk (C := B + 1) cl2 ml2 dis (by omega)
  exact Wl_icmp_eq hX (tgt := 726) dL_law_593 (by decide) rfl rfl (fun _ => Kt _ iv) (fun w => absurd (congrArg Int32.toInt er) w)
theorem lc_sees (hX : w_Lx p s m meth c b L xs) (hL : L ≤ 2048) {k B : Nat} (hk : 4 * k + 4 ≤ L) (hB : B < 2 ^ 30) (inv : INV V B) (Kt : ∀ V', INV V' (B + 1) → Wl E p l e s m below meth c b 71 950 726 [(3, .int (nI (4 * k))), (2, .ref (ad 53)), (1, .ref (ad 0)), (0, .ref b)] [] SX ad V') : Wl E p l e s m below meth c b 71 950 598 [(3, .int (nI (4 * k))), (2, .ref (ad 53)), (1, .ref (ad 0)), (0, .ref b)] [] SX ad V := by
  obtain ⟨n, tt, nb, ln, lt, col, siz, sg, hn, hi, im, kp, q, sk, sv, cl, ml, dis⟩ := inv
  refine Wl_aload_n hX dL_law_598 rfl 2 rfl ?_
  refine Wl_aload_n hX dL_law_599 rfl 3 rfl ?_
  refine Wl_iload_n hX dL_law_600 rfl 0 rfl ?_
  refine Wl_iconst hX (v := nI 1) dL_law_601 (by decide) ?_
  refine Wl_iadd hX (z := nI (4 * k + 1)) dL_law_602 (nI_add _ _) ?_
  refine Wl_sld hX (n := 4 * k + 1) (y := xs (4 * k + 1)) rfl (by omega) (by omega) rfl dL_law_603 ?_
  refine Wl_aload_n hX dL_law_604 rfl 3 rfl ?_
  refine Wl_iload_n hX dL_law_605 rfl 0 rfl ?_
  refine Wl_iconst hX (v := nI 2) dL_law_606 (by decide) ?_
  refine Wl_iadd hX (z := nI (4 * k + 2)) dL_law_607 (nI_add _ _) ?_
  refine Wl_sld hX (n := 4 * k + 2) (y := xs (4 * k + 2)) rfl (by omega) (by omega) rfl dL_law_608 ?_
  refine Wl_call hX (c_X8_sees cl (xs (4 * k + 1)) (xs (4 * k + 2))) YV_X8_sees ml_L_89 sx_0 rfl dL_law_609 (by decide) (by decide) (by decide) (by decide) rfl rfl (Nat.le_of_ble_eq_true rfl) (fun r1 V1 h1 => ?_)
  obtain ⟨e1, cl1, fr1⟩ := h1
  have ml1 := ml.hi fr1
  refine Wl_aload_n hX dL_law_612 rfl 1 rfl ?_
  refine Wl_aload_n hX dL_law_613 rfl 3 rfl ?_
  refine Wl_iload_n hX dL_law_614 rfl 0 rfl ?_
  refine Wl_iconst hX (v := nI 1) dL_law_615 (by decide) ?_
  refine Wl_iadd hX (z := nI (4 * k + 1)) dL_law_616 (nI_add _ _) ?_
  refine Wl_sld hX (n := 4 * k + 1) (y := xs (4 * k + 1)) rfl (by omega) (by omega) rfl dL_law_617 ?_
  refine Wl_aload_n hX dL_law_618 rfl 3 rfl ?_
  refine Wl_iload_n hX dL_law_619 rfl 0 rfl ?_
  refine Wl_iconst hX (v := nI 2) dL_law_620 (by decide) ?_
  refine Wl_iadd hX (z := nI (4 * k + 2)) dL_law_621 (nI_add _ _) ?_
  refine Wl_sld hX (n := 4 * k + 2) (y := xs (4 * k + 2)) rfl (by omega) (by omega) rfl dL_law_622 ?_
  refine Wl_call hX (c_X9_sees ml1 (xs (4 * k + 1)) (xs (4 * k + 2))) YV_X9_sees ml_L_92 sx_53 rfl dL_law_623 (by decide) (by decide) (by decide) (by decide) rfl rfl (Nat.le_of_ble_eq_true rfl) (fun r2 V2 h2 => ?_)
  obtain ⟨e2, ml2, fr2⟩ := h2
  have cl2 := cl1.lo fr2
  have er := e1.trans e2.symm
  have iv := INV.mk (C := B + 1) cl2 ml2 dis (by omega)
  exact Wl_icmp_eq hX (tgt := 726) dL_law_626 (by decide) rfl rfl (fun _ => Kt _ iv) (fun w => absurd (congrArg Int32.toInt er) w)
theorem lc_forget (hX : w_Lx p s m meth c b L xs) (hL : L ≤ 2048) {k B : Nat} (hk : 4 * k + 4 ≤ L) (hB : B < 2 ^ 30) (inv : INV V B) (Kt : ∀ V', INV V' (B + 1) → Wl E p l e s m below meth c b 71 950 726 [(3, .int (nI (4 * k))), (2, .ref (ad 53)), (1, .ref (ad 0)), (0, .ref b)] [] SX ad V') : Wl E p l e s m below meth c b 71 950 631 [(3, .int (nI (4 * k))), (2, .ref (ad 53)), (1, .ref (ad 0)), (0, .ref b)] [] SX ad V := by
  obtain ⟨n, tt, nb, ln, lt, col, siz, sg, hn, hi, im, kp, q, sk, sv, cl, ml, dis⟩ := inv
  refine Wl_aload_n hX dL_law_631 rfl 2 rfl ?_
  refine Wl_call hX (c_X8_forget cl) YV_X8_forget ml_L_93 sx_0 rfl dL_law_632 (by decide) (by decide) (by decide) (by decide) rfl rfl (Nat.le_of_ble_eq_true rfl) (fun r1 V1 h1 => ?_)
  obtain ⟨e1, cl1, fr1⟩ := h1
  have ml1 := ml.hi fr1
  refine Wl_aload_n hX dL_law_635 rfl 1 rfl ?_
  refine Wl_call hX (c_X9_forget ml1) YV_X9_forget ml_L_96 sx_53 rfl dL_law_636 (by decide) (by decide) (by decide) (by decide) rfl rfl (Nat.le_of_ble_eq_true rfl) (fun r2 V2 h2 => ?_)
  obtain ⟨e2, ml2, fr2⟩ := h2
  have cl2 := cl1.lo fr2
  have er := e1.trans e2.symm
  have iv := INV.mk (C := B + 1) cl2 ml2 dis (by omega)
  exact Wl_icmp_eq hX (tgt := 726) dL_law_639 (by decide) rfl rfl (fun _ => Kt _ iv) (fun w => absurd (congrArg Int32.toInt er) w)
theorem lc_unseen (hX : w_Lx p s m meth c b L xs) (hL : L ≤ 2048) {k B : Nat} (hk : 4 * k + 4 ≤ L) (hB : B < 2 ^ 30) (inv : INV V B) (Kt : ∀ V', INV V' (B + 1) → Wl E p l e s m below meth c b 71 950 726 [(3, .int (nI (4 * k))), (2, .ref (ad 53)), (1, .ref (ad 0)), (0, .ref b)] [] SX ad V') : Wl E p l e s m below meth c b 71 950 644 [(3, .int (nI (4 * k))), (2, .ref (ad 53)), (1, .ref (ad 0)), (0, .ref b)] [] SX ad V := by
  obtain ⟨n, tt, nb, ln, lt, col, siz, sg, hn, hi, im, kp, q, sk, sv, cl, ml, dis⟩ := inv
  refine Wl_aload_n hX dL_law_644 rfl 2 rfl ?_
  refine Wl_call hX (c_X8_unseen cl hB) YV_X8_unseen ml_L_97 sx_0 rfl dL_law_645 (by decide) (by decide) (by decide) (by decide) rfl rfl (Nat.le_of_ble_eq_true rfl) (fun r1 V1 h1 => ?_)
  obtain ⟨⟨ub, u1, e1⟩, cl1, fr1⟩ := h1
  have ml1 := ml.hi fr1
  refine Wl_aload_n hX dL_law_648 rfl 1 rfl ?_
  refine Wl_call hX (c_X9_unseen ml1) YV_X9_unseen ml_L_100 sx_53 rfl dL_law_649 (by decide) (by decide) (by decide) (by decide) rfl rfl (Nat.le_of_ble_eq_true rfl) (fun r2 V2 h2 => ?_)
  obtain ⟨⟨ub2, u2, e2⟩, ml2, fr2⟩ := h2
  have cl2 := cl1.lo fr2
  have er : r1 = r2 := by rw [e1, e2]; exact unF_congr (fun p hp => UNB_uniq (u1 p hp) (u2 p hp))
  have iv := INV.mk (C := B + 1) cl2 ml2 dis (by omega)
  exact Wl_icmp_eq hX (tgt := 726) dL_law_652 (by decide) rfl rfl (fun _ => Kt _ iv) (fun w => absurd (congrArg Int32.toInt er) w)
theorem lc_keep (hX : w_Lx p s m meth c b L xs) (hL : L ≤ 2048) {k B : Nat} (hk : 4 * k + 4 ≤ L) (hB : B < 2 ^ 30) (inv : INV V B) (Kt : ∀ V', INV V' (B + 1) → Wl E p l e s m below meth c b 71 950 726 [(3, .int (nI (4 * k))), (2, .ref (ad 53)), (1, .ref (ad 0)), (0, .ref b)] [] SX ad V') : Wl E p l e s m below meth c b 71 950 657 [(3, .int (nI (4 * k))), (2, .ref (ad 53)), (1, .ref (ad 0)), (0, .ref b)] [] SX ad V := by
  obtain ⟨n, tt, nb, ln, lt, col, siz, sg, hn, hi, im, kp, q, sk, sv, cl, ml, dis⟩ := inv
  refine Wl_aload_n hX dL_law_657 rfl 2 rfl ?_
  refine Wl_aload_n hX dL_law_658 rfl 3 rfl ?_
  refine Wl_iload_n hX dL_law_659 rfl 0 rfl ?_
  refine Wl_iconst hX (v := nI 1) dL_law_660 (by decide) ?_
  refine Wl_iadd hX (z := nI (4 * k + 1)) dL_law_661 (nI_add _ _) ?_
  refine Wl_sld hX (n := 4 * k + 1) (y := xs (4 * k + 1)) rfl (by omega) (by omega) rfl dL_law_662 ?_
  refine Wl_call hX (c_X8_keep cl (xs (4 * k + 1))) YV_X8_keep ml_L_101 sx_0 rfl dL_law_663 (by decide) (by decide) (by decide) (by decide) rfl rfl (Nat.le_of_ble_eq_true rfl) (fun r1 V1 h1 => ?_)
  obtain ⟨e1, cl1, fr1⟩ := h1
  have ml1 := ml.hi fr1
  refine Wl_aload_n hX dL_law_666 rfl 1 rfl ?_
  refine Wl_aload_n hX dL_law_667 rfl 3 rfl ?_
  refine Wl_iload_n hX dL_law_668 rfl 0 rfl ?_
  refine Wl_iconst hX (v := nI 1) dL_law_669 (by decide) ?_
  refine Wl_iadd hX (z := nI (4 * k + 1)) dL_law_670 (nI_add _ _) ?_
  refine Wl_sld hX (n := 4 * k + 1) (y := xs (4 * k + 1)) rfl (by omega) (by omega) rfl dL_law_671 ?_
  refine Wl_call hX (c_X9_keep ml1 (xs (4 * k + 1))) YV_X9_keep ml_L_104 sx_53 rfl dL_law_672 (by decide) (by decide) (by decide) (by decide) rfl rfl (Nat.le_of_ble_eq_true rfl) (fun r2 V2 h2 => ?_)
  obtain ⟨e2, ml2, fr2⟩ := h2
  have cl2 := cl1.lo fr2
  have er := e1.trans e2.symm
  have iv := INV.mk (C := B + 1) cl2 ml2 dis (by omega)
  exact Wl_icmp_eq hX (tgt := 726) dL_law_675 (by decide) rfl rfl (fun _ => Kt _ iv) (fun w => absurd (congrArg Int32.toInt er) w)
theorem lc_back (hX : w_Lx p s m meth c b L xs) (hL : L ≤ 2048) {k B : Nat} (hk : 4 * k + 4 ≤ L) (hB : B < 2 ^ 30) (inv : INV V B) (Kt : ∀ V', INV V' (B + 1) → Wl E p l e s m below meth c b 71 950 726 [(3, .int (nI (4 * k))), (2, .ref (ad 53)), (1, .ref (ad 0)), (0, .ref b)] [] SX ad V') : Wl E p l e s m below meth c b 71 950 680 [(3, .int (nI (4 * k))), (2, .ref (ad 53)), (1, .ref (ad 0)), (0, .ref b)] [] SX ad V := by
  obtain ⟨n, tt, nb, ln, lt, col, siz, sg, hn, hi, im, kp, q, sk, sv, cl, ml, dis⟩ := inv
  refine Wl_aload_n hX dL_law_680 rfl 2 rfl ?_
  refine Wl_aload_n hX dL_law_681 rfl 3 rfl ?_
  refine Wl_iload_n hX dL_law_682 rfl 0 rfl ?_
  refine Wl_iconst hX (v := nI 1) dL_law_683 (by decide) ?_
  refine Wl_iadd hX (z := nI (4 * k + 1)) dL_law_684 (nI_add _ _) ?_
  refine Wl_sld hX (n := 4 * k + 1) (y := xs (4 * k + 1)) rfl (by omega) (by omega) rfl dL_law_685 ?_
  refine Wl_call hX (c_X8_back cl (xs (4 * k + 1))) YV_X8_back ml_L_105 sx_0 rfl dL_law_686 (by decide) (by decide) (by decide) (by decide) rfl rfl (Nat.le_of_ble_eq_true rfl) (fun r1 V1 h1 => ?_)
  obtain ⟨e1, cl1, fr1⟩ := h1
  have ml1 := ml.hi fr1
  refine Wl_aload_n hX dL_law_689 rfl 1 rfl ?_
  refine Wl_aload_n hX dL_law_690 rfl 3 rfl ?_
  refine Wl_iload_n hX dL_law_691 rfl 0 rfl ?_
  refine Wl_iconst hX (v := nI 1) dL_law_692 (by decide) ?_
  refine Wl_iadd hX (z := nI (4 * k + 1)) dL_law_693 (nI_add _ _) ?_
  refine Wl_sld hX (n := 4 * k + 1) (y := xs (4 * k + 1)) rfl (by omega) (by omega) rfl dL_law_694 ?_
  refine Wl_call hX (c_X9_back ml1 (xs (4 * k + 1))) YV_X9_back ml_L_108 sx_53 rfl dL_law_695 (by decide) (by decide) (by decide) (by decide) rfl rfl (Nat.le_of_ble_eq_true rfl) (fun r2 V2 h2 => ?_)
  obtain ⟨e2, ml2, fr2⟩ := h2
  have cl2 := cl1.lo fr2
  have er := e1.trans e2.symm
  have iv := INV.mk (C := B + 1) cl2 ml2 dis (by omega)
  exact Wl_icmp_eq hX (tgt := 726) dL_law_698 (by decide) rfl rfl (fun _ => Kt _ iv) (fun w => absurd (congrArg Int32.toInt er) w)
theorem lc_count (hX : w_Lx p s m meth c b L xs) (hL : L ≤ 2048) {k B : Nat} (hk : 4 * k + 4 ≤ L) (hB : B < 2 ^ 30) (inv : INV V B) (Kt : ∀ V', INV V' (B + 1) → Wl E p l e s m below meth c b 71 950 726 [(3, .int (nI (4 * k))), (2, .ref (ad 53)), (1, .ref (ad 0)), (0, .ref b)] [] SX ad V') : Wl E p l e s m below meth c b 71 950 703 [(3, .int (nI (4 * k))), (2, .ref (ad 53)), (1, .ref (ad 0)), (0, .ref b)] [] SX ad V := by
  obtain ⟨n, tt, nb, ln, lt, col, siz, sg, hn, hi, im, kp, q, sk, sv, cl, ml, dis⟩ := inv
  refine Wl_aload_n hX dL_law_703 rfl 2 rfl ?_
  refine Wl_aload_n hX dL_law_704 rfl 3 rfl ?_
  refine Wl_iload_n hX dL_law_705 rfl 0 rfl ?_
  refine Wl_iconst hX (v := nI 1) dL_law_706 (by decide) ?_
  refine Wl_iadd hX (z := nI (4 * k + 1)) dL_law_707 (nI_add _ _) ?_
  refine Wl_sld hX (n := 4 * k + 1) (y := xs (4 * k + 1)) rfl (by omega) (by omega) rfl dL_law_708 ?_
  refine Wl_call hX (c_X8_count cl hB (xs (4 * k + 1))) YV_X8_count ml_L_109 sx_0 rfl dL_law_709 (by decide) (by decide) (by decide) (by decide) rfl rfl (Nat.le_of_ble_eq_true rfl) (fun r1 V1 h1 => ?_)
  obtain ⟨d1, cl1, fr1⟩ := h1
  have ml1 := ml.hi fr1
  refine Wl_aload_n hX dL_law_712 rfl 1 rfl ?_
  refine Wl_aload_n hX dL_law_713 rfl 3 rfl ?_
  refine Wl_iload_n hX dL_law_714 rfl 0 rfl ?_
  refine Wl_iconst hX (v := nI 1) dL_law_715 (by decide) ?_
  refine Wl_iadd hX (z := nI (4 * k + 1)) dL_law_716 (nI_add _ _) ?_
  refine Wl_sld hX (n := 4 * k + 1) (y := xs (4 * k + 1)) rfl (by omega) (by omega) rfl dL_law_717 ?_
  refine Wl_call hX (c_X9_count ml1 hB (xs (4 * k + 1))) YV_X9_count ml_L_112 sx_53 rfl dL_law_718 (by decide) (by decide) (by decide) (by decide) rfl rfl (Nat.le_of_ble_eq_true rfl) (fun r2 V2 h2 => ?_)
  obtain ⟨d2, ml2, fr2⟩ := h2
  have cl2 := cl1.lo fr2
  have er : r1 = r2 := by
    rcases d1 with ⟨a1, b1, e1⟩ | ⟨a1, md, H, st, cu, e1⟩ <;> rcases d2 with ⟨a2, b2, e2⟩ | ⟨a2, md', H', st', cu', e2⟩
    · rw [e1, e2]
    · exfalso; omega
    · exfalso; omega
    · obtain ⟨x1, x2, _⟩ := CUTS_uniq cu cu'
      rw [e1, e2, x1, x2]
  have iv := INV.mk (C := B + 1) cl2 ml2 dis (by omega)
  exact Wl_icmp_eq hX (tgt := 726) dL_law_721 (by decide) rfl rfl (fun _ => Kt _ iv) (fun w => absurd (congrArg Int32.toInt er) w)
end WCASES
