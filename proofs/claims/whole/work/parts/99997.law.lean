/-! ===== the law: its walk ===== -/
section LAW
variable {g : fx_G} {M : fx_M} {pc : Nat} {lv : List (Nat × Value)} {st : List Value} {h : fx_H} {Q : fx_O → fx_H → Prop} {mc ms : Nat} {b0 L : Nat} {xs : Nat → Int32}
theorem fx_sld (hX : va_X b0 L xs (fx_s0 g) (fx_s0 g).heap) (hb : b0 < fx_b g) {i : Int32} (hin : vp_in i L) (d : decode (fx_cc M) pc = .ok (.iaload, 1)) (K : fx_X g M (pc + 1) lv (.int (xs i.toNatClampNeg) :: st) h Q mc ms) : fx_X g M pc lv (.int i :: .ref b0 :: st) h Q mc ms := by
  intro p e R s m args below meth c F H locs cells slots ls hR hL hc hs' hl
  obtain ⟨scr, h1, h2, h3, h4, h5⟩ := va_X.moved F.2.2.2.2.2.1.alike hX
  exact W.iald (v := .int (xs i.toNatClampNeg)) F.1 F.2.1 (by rw [hR.2.2.1 b0 hb]; exact h1) h2 h3 (by rw [h4]; exact hin) (h5 _ (fx_in hin)) rfl rfl d (K p e R s m args below meth c F H locs cells slots ls hR hL hc hs' hl)
theorem fx_slen (hX : va_X b0 L xs (fx_s0 g) (fx_s0 g).heap) (hb : b0 < fx_b g) (d : decode (fx_cc M) pc = .ok (.arraylength, 1)) (K : fx_X g M (pc + 1) lv (.int (Int32.ofNat L) :: st) h Q mc ms) : fx_X g M pc lv (.ref b0 :: st) h Q mc ms := by
  intro p e R s m args below meth c F H locs cells slots ls hR hL hc hs' hl
  obtain ⟨scr, h1, h2, h3, h4, h5⟩ := va_X.moved F.2.2.2.2.2.1.alike hX
  exact W.alen (n := Int32.ofNat L) F.1 F.2.1 (by rw [hR.2.2.1 b0 hb]; exact h1) h2 (by rw [h4] <;> rfl) rfl rfl d (K p e R s m args below meth c F H locs cells slots ls hR hL hc hs' hl)
theorem fx_Sb10 (ok : fx_ok g) {M' : fx_M} {k : fx_H} {mc' ms' : Nat} {x : Int32} {idx : Nat} {a1 a2 a3 a4 a5 a6 a7 a8 a9 a10 : Value} (w : fx_wS (fx_y M).cls idx 10 M') (hC : fx_C g M' ([a1, a2, a3, a4, a5, a6, a7, a8, a9, a10] : List Value) h (fx_is (some x) k) mc' ms') (hlv : fx_lv M' + 1 ≤ fx_lv M) (hlo : (st.map fun v => v.category).sum + (fx_ml M' + 11) + fx_lw M' ≤ fx_lw M) (d : decode (fx_cc M) pc = .ok (.invokestatic idx, 3))
    (K : fx_X g M (pc + 3) lv (.int x :: st) k Q mc ms) : fx_X g M pc lv (a10 :: a9 :: a8 :: a7 :: a6 :: a5 :: a4 :: a3 :: a2 :: a1 :: st) h Q (mc' + mc) (ms' + ms) :=
  fx_callR ok hC (fx_siteS ok (as := [a1, a2, a3, a4, a5, a6, a7, a8, a9, a10]) w.1 w.2 d) w.1.1 w.1.2.1 hlv hlo K
theorem sc_in {t : Nat} (ht : 9 * t + 9 ≤ L) (hL : L ≤ 4608) {c : Int32} (hc : 0 ≤ c.toInt ∧ c.toInt ≤ 8) : vp_in (nI (9 * t) + c) L := by
  have e : (nI (9 * t)).toInt = ((9 * t : Nat) : Int) := nI_toInt (by omega)
  have e2 : (nI (9 * t) + c).toInt = ((9 * t : Nat) : Int) + c.toInt := by rw [iz_add (by rw [e]; omega), e]
  exact iz_in (by omega) (by omega)
theorem sc_0 {t : Nat} (ht : 9 * t + 9 ≤ L) (hL : L ≤ 4608) : vp_in (nI (9 * t)) L := by
  have e : (nI (9 * t)).toInt = ((9 * t : Nat) : Int) := nI_toInt (by omega)
  exact iz_in (by omega) (by omega)
theorem cmp0 {K : fx_H} {z : Nat} {v : Int32} (e : fx_i K z 0 = v) : lg_cmp (fx_i K z (0 : Int32).toNatClampNeg).toInt64 v.toInt64 = 0 := by
  have c0 : (0 : Int32).toNatClampNeg = 0 := rfl
  rw [c0, e]
  unfold lg_cmp
  have hn : ¬ (v.toInt64 > v.toInt64) := fun y => by
    rw [gt_iff_lt, Int64.lt_iff_toInt_lt] at y
    omega
  rw [if_neg hn, if_pos rfl]

set_option maxHeartbeats 1000000 in
theorem la_surface (ok : fx_ok g) (hX : va_X b0 L xs (fx_s0 g) (fx_s0 g).heap) (hb : b0 < fx_b g) {w q z f b t : Nat} (ht : 9 * t + 9 ≤ L) (hL : L ≤ 4608) (I : LI h w q z f b) (K : ∀ h' f' b', LI h' w q z f' b' → fx_X g mq_LA_law 1086 [(0, .ref b0), (1, .ref w), (2, .ref q), (3, .ref z), (4, .int (nI (9 * t)))] [] h' Q mc ms) : fx_X g mq_LA_law 124 [(0, .ref b0), (1, .ref w), (2, .ref q), (3, .ref z), (4, .int (nI (9 * t)))] [] h Q (1 + mc) (6 + ms) := by
  obtain ⟨c, K1, v, K2, C1, M1, C2, T1, A1, f2, b2, I2⟩ := L_surface ok I (xs (nI (9 * t) + 1).toNatClampNeg) (xs (nI (9 * t) + 2).toNatClampNeg) (xs (nI (9 * t) + 3).toNatClampNeg)
  refine fx_aload_n 1 dq_LA_law_124 rfl rfl ?_
  refine fx_aload_n 0 dq_LA_law_125 rfl rfl ?_
  refine fx_iload 4 dq_LA_law_126 rfl ?_
  refine fx_iconst (v := 1) dq_LA_law_128 (by decide) ?_
  refine fx_iadd dq_LA_law_129 ?_
  refine fx_sld hX hb (sc_in ht hL (by decide)) dq_LA_law_130 ?_
  refine fx_aload_n 0 dq_LA_law_131 rfl rfl ?_
  refine fx_iload 4 dq_LA_law_132 rfl ?_
  refine fx_iconst (v := 2) dq_LA_law_134 (by decide) ?_
  refine fx_iadd dq_LA_law_135 ?_
  refine fx_sld hX hb (sc_in ht hL (by decide)) dq_LA_law_136 ?_
  refine fx_aload_n 0 dq_LA_law_137 rfl rfl ?_
  refine fx_iload 4 dq_LA_law_138 rfl ?_
  refine fx_iconst (v := 3) dq_LA_law_140 (by decide) ?_
  refine fx_iadd dq_LA_law_141 ?_
  refine fx_sld hX hb (sc_in ht hL (by decide)) dq_LA_law_142 ?_
  refine fx_aload_n 3 dq_LA_law_143 rfl rfl ?_
  refine fx_Sb5 ok sq_LA_54 C1 (by decide) (Nat.le_of_ble_eq_true rfl) dq_LA_law_144 ?_
  refine fx_istore dq_LA_law_147 (by decide) rfl ?_
  refine fx_aload_n 3 dq_LA_law_149 rfl rfl ?_
  refine fx_aload_n 1 dq_LA_law_150 rfl rfl ?_
  refine fx_iload 5 dq_LA_law_151 rfl ?_
  refine fx_iconst (v := 1) dq_LA_law_153 (by decide) ?_
  refine fx_iadd dq_LA_law_154 ?_
  refine fx_sld hX hb (sc_in ht hL (by decide)) dq_LA_law_155 ?_
  refine fx_aload_n 1 dq_LA_law_156 rfl rfl ?_
  refine fx_iload 5 dq_LA_law_157 rfl ?_
  refine fx_iconst (v := 2) dq_LA_law_159 (by decide) ?_
  refine fx_iadd dq_LA_law_160 ?_
  refine fx_sld hX hb (sc_in ht hL (by decide)) dq_LA_law_161 ?_
  refine fx_aload_n 1 dq_LA_law_162 rfl rfl ?_
  refine fx_iload 5 dq_LA_law_163 rfl ?_
  refine fx_iconst (v := 3) dq_LA_law_165 (by decide) ?_
  refine fx_iadd dq_LA_law_166 ?_
  refine fx_sld hX hb (sc_in ht hL (by decide)) dq_LA_law_167 ?_
  refine fx_Vi3 ok sq_LA_59 M1.1 C2 (by decide) (Nat.le_of_ble_eq_true rfl) dq_LA_law_168 ?_
  refine fx_istore dq_LA_law_171 (by decide) rfl ?_
  refine fx_aload_n 4 dq_LA_law_173 rfl rfl ?_
  refine fx_Vi0 ok sq_LA_60 I2.2.1.1 (c_MO_thrown ok K2 q I2.2.1) (by decide) (Nat.le_of_ble_eq_true rfl) dq_LA_law_174 ?_
  refine fx_iload 1 dq_LA_law_177 rfl ?_
  refine fx_icmp_eq (tgt := 184) dq_LA_law_179 (by decide) (fun _ => ?_) (fun ne => absurd T1 ne)
  refine fx_iload 1 dq_LA_law_184 rfl ?_
  refine fx_if_ne (tgt := 201) dq_LA_law_186 (by decide) (fun _ => ?_) (fun e0 => ?_)
  · refine fx_goto (tgt := 1086) dq_LA_law_201 (by decide) ?_
    exact fx_sub [2, 3, 4, 5, 6] rfl (K _ _ _ I2)
  · refine fx_aload_n 5 dq_LA_law_189 rfl rfl ?_
    refine fx_iconst (v := 0) dq_LA_law_190 (by decide) ?_
    refine fx_laload ok I2.2.2.2.1 (by unfold vp_in; decide) dq_LA_law_191 ?_
    refine fx_iload 0 dq_LA_law_192 rfl ?_
    refine fx_i2l dq_LA_law_194 ?_
    refine fx_lcmp dq_LA_law_195 ?_
    refine fx_if_eq (tgt := 201) dq_LA_law_196 (by decide) (fun _ => ?_) (fun ne => absurd (cmp0 (A1 e0)) ne)
    refine fx_goto (tgt := 1086) dq_LA_law_201 (by decide) ?_
    exact fx_sub [2, 3, 4, 5, 6] rfl (K _ _ _ I2)
set_option maxHeartbeats 1000000 in
theorem la_destroy (ok : fx_ok g) (hX : va_X b0 L xs (fx_s0 g) (fx_s0 g).heap) (hb : b0 < fx_b g) {w q z f b t : Nat} (ht : 9 * t + 9 ≤ L) (hL : L ≤ 4608) (I : LI h w q z f b) (K : ∀ h' f' b', LI h' w q z f' b' → fx_X g mq_LA_law 1086 [(0, .ref b0), (1, .ref w), (2, .ref q), (3, .ref z), (4, .int (nI (9 * t)))] [] h' Q mc ms) : fx_X g mq_LA_law 204 [(0, .ref b0), (1, .ref w), (2, .ref q), (3, .ref z), (4, .int (nI (9 * t)))] [] h Q (1 + mc) (6 + ms) := by
  obtain ⟨c, K1, K2, C1, M1, C2, T1, f2, b2, I2⟩ := L_destroy ok I (xs (nI (9 * t) + 1).toNatClampNeg)
  refine fx_aload_n 1 dq_LA_law_204 rfl rfl ?_
  refine fx_aload_n 0 dq_LA_law_205 rfl rfl ?_
  refine fx_iload 4 dq_LA_law_206 rfl ?_
  refine fx_iconst (v := 1) dq_LA_law_208 (by decide) ?_
  refine fx_iadd dq_LA_law_209 ?_
  refine fx_sld hX hb (sc_in ht hL (by decide)) dq_LA_law_210 ?_
  refine fx_Sb2 ok sq_LA_64 C1 (by decide) (Nat.le_of_ble_eq_true rfl) dq_LA_law_211 ?_
  refine fx_istore dq_LA_law_214 (by decide) rfl ?_
  refine fx_aload_n 3 dq_LA_law_216 rfl rfl ?_
  refine fx_aload_n 1 dq_LA_law_217 rfl rfl ?_
  refine fx_iload 5 dq_LA_law_218 rfl ?_
  refine fx_iconst (v := 1) dq_LA_law_220 (by decide) ?_
  refine fx_iadd dq_LA_law_221 ?_
  refine fx_sld hX hb (sc_in ht hL (by decide)) dq_LA_law_222 ?_
  refine fx_Vv1 ok sq_LA_67 M1.1 C2 (by decide) (Nat.le_of_ble_eq_true rfl) dq_LA_law_223 ?_
  refine fx_aload_n 3 dq_LA_law_226 rfl rfl ?_
  refine fx_Vi0 ok sq_LA_60 I2.2.1.1 (c_MO_thrown ok K2 q I2.2.1) (by decide) (Nat.le_of_ble_eq_true rfl) dq_LA_law_227 ?_
  refine fx_iload 0 dq_LA_law_230 rfl ?_
  refine fx_icmp_eq (tgt := 237) dq_LA_law_232 (by decide) (fun _ => ?_) (fun ne => absurd T1 ne)
  refine fx_goto (tgt := 1086) dq_LA_law_237 (by decide) ?_
  exact fx_sub [1, 2, 3, 4, 5] rfl (K _ _ _ I2)
set_option maxHeartbeats 1000000 in
theorem la_place (ok : fx_ok g) (hX : va_X b0 L xs (fx_s0 g) (fx_s0 g).heap) (hb : b0 < fx_b g) {w q z f b t : Nat} (ht : 9 * t + 9 ≤ L) (hL : L ≤ 4608) (I : LI h w q z f b) (K : ∀ h' f' b', LI h' w q z f' b' → fx_X g mq_LA_law 1086 [(0, .ref b0), (1, .ref w), (2, .ref q), (3, .ref z), (4, .int (nI (9 * t)))] [] h' Q mc ms) : fx_X g mq_LA_law 240 [(0, .ref b0), (1, .ref w), (2, .ref q), (3, .ref z), (4, .int (nI (9 * t)))] [] h Q (1 + mc) (6 + ms) := by
  refine fx_aload_n 1 dq_LA_law_240 rfl rfl ?_
  refine fx_aload_n 0 dq_LA_law_241 rfl rfl ?_
  refine fx_iload 4 dq_LA_law_242 rfl ?_
  refine fx_iconst (v := 1) dq_LA_law_244 (by decide) ?_
  refine fx_iadd dq_LA_law_245 ?_
  refine fx_sld hX hb (sc_in ht hL (by decide)) dq_LA_law_246 ?_
  refine fx_aload_n 0 dq_LA_law_247 rfl rfl ?_
  refine fx_iload 4 dq_LA_law_248 rfl ?_
  refine fx_iconst (v := 2) dq_LA_law_250 (by decide) ?_
  refine fx_iadd dq_LA_law_251 ?_
  refine fx_sld hX hb (sc_in ht hL (by decide)) dq_LA_law_252 ?_
  refine fx_aload_n 0 dq_LA_law_253 rfl rfl ?_
  refine fx_iload 4 dq_LA_law_254 rfl ?_
  refine fx_iconst (v := 3) dq_LA_law_256 (by decide) ?_
  refine fx_iadd dq_LA_law_257 ?_
  refine fx_sld hX hb (sc_in ht hL (by decide)) dq_LA_law_258 ?_
  refine fx_aload_n 0 dq_LA_law_259 rfl rfl ?_
  refine fx_iload 4 dq_LA_law_260 rfl ?_
  refine fx_iconst (v := 4) dq_LA_law_262 (by decide) ?_
  refine fx_iadd dq_LA_law_263 ?_
  refine fx_sld hX hb (sc_in ht hL (by decide)) dq_LA_law_264 ?_
  refine fx_aload_n 0 dq_LA_law_265 rfl rfl ?_
  refine fx_iload 4 dq_LA_law_266 rfl ?_
  refine fx_iconst (v := 5) dq_LA_law_268 (by decide) ?_
  refine fx_iadd dq_LA_law_269 ?_
  refine fx_sld hX hb (sc_in ht hL (by decide)) dq_LA_law_270 ?_
  refine fx_aload_n 0 dq_LA_law_271 rfl rfl ?_
  refine fx_iload 4 dq_LA_law_272 rfl ?_
  refine fx_bipush (v := 6) dq_LA_law_274 (by decide) ?_
  refine fx_iadd dq_LA_law_276 ?_
  refine fx_sld hX hb (sc_in ht hL (by decide)) dq_LA_law_277 ?_
  refine fx_if_eq (tgt := 285) dq_LA_law_278 (by decide) (fun hc => ?_) (fun hc => ?_)
  · obtain ⟨c, K1, K2, C1, M1, C2, T1, f2, b2, I2⟩ := L_place ok I (xs (nI (9 * t) + 1).toNatClampNeg) (xs (nI (9 * t) + 2).toNatClampNeg) (xs (nI (9 * t) + 3).toNatClampNeg) (xs (nI (9 * t) + 4).toNatClampNeg) (xs (nI (9 * t) + 5).toNatClampNeg) 0 (Or.inl rfl)
    refine fx_iconst (v := 0) dq_LA_law_285 (by decide) ?_
    refine fx_Sb7 ok sq_LA_68 C1 (by decide) (Nat.le_of_ble_eq_true rfl) dq_LA_law_286 ?_
    refine fx_istore dq_LA_law_289 (by decide) rfl ?_
    refine fx_aload_n 3 dq_LA_law_291 rfl rfl ?_
    refine fx_aload_n 1 dq_LA_law_292 rfl rfl ?_
    refine fx_iload 5 dq_LA_law_293 rfl ?_
    refine fx_iconst (v := 1) dq_LA_law_295 (by decide) ?_
    refine fx_iadd dq_LA_law_296 ?_
    refine fx_sld hX hb (sc_in ht hL (by decide)) dq_LA_law_297 ?_
    refine fx_aload_n 1 dq_LA_law_298 rfl rfl ?_
    refine fx_iload 5 dq_LA_law_299 rfl ?_
    refine fx_iconst (v := 2) dq_LA_law_301 (by decide) ?_
    refine fx_iadd dq_LA_law_302 ?_
    refine fx_sld hX hb (sc_in ht hL (by decide)) dq_LA_law_303 ?_
    refine fx_aload_n 1 dq_LA_law_304 rfl rfl ?_
    refine fx_iload 5 dq_LA_law_305 rfl ?_
    refine fx_iconst (v := 3) dq_LA_law_307 (by decide) ?_
    refine fx_iadd dq_LA_law_308 ?_
    refine fx_sld hX hb (sc_in ht hL (by decide)) dq_LA_law_309 ?_
    refine fx_aload_n 1 dq_LA_law_310 rfl rfl ?_
    refine fx_iload 5 dq_LA_law_311 rfl ?_
    refine fx_iconst (v := 4) dq_LA_law_313 (by decide) ?_
    refine fx_iadd dq_LA_law_314 ?_
    refine fx_sld hX hb (sc_in ht hL (by decide)) dq_LA_law_315 ?_
    refine fx_aload_n 1 dq_LA_law_316 rfl rfl ?_
    refine fx_iload 5 dq_LA_law_317 rfl ?_
    refine fx_iconst (v := 5) dq_LA_law_319 (by decide) ?_
    refine fx_iadd dq_LA_law_320 ?_
    refine fx_sld hX hb (sc_in ht hL (by decide)) dq_LA_law_321 ?_
    refine fx_aload_n 1 dq_LA_law_322 rfl rfl ?_
    refine fx_iload 5 dq_LA_law_323 rfl ?_
    refine fx_bipush (v := 6) dq_LA_law_325 (by decide) ?_
    refine fx_iadd dq_LA_law_327 ?_
    refine fx_sld hX hb (sc_in ht hL (by decide)) dq_LA_law_328 ?_
    refine fx_if_eq (tgt := 336) dq_LA_law_329 (by decide) (fun _ => ?_) (fun ne => absurd hc ne)
    refine fx_iconst (v := 0) dq_LA_law_336 (by decide) ?_
    refine fx_Vv6 ok sq_LA_71 M1.1 C2 (by decide) (Nat.le_of_ble_eq_true rfl) dq_LA_law_337 ?_
    refine fx_aload_n 3 dq_LA_law_340 rfl rfl ?_
    refine fx_Vi0 ok sq_LA_60 I2.2.1.1 (c_MO_thrown ok K2 q I2.2.1) (by decide) (Nat.le_of_ble_eq_true rfl) dq_LA_law_341 ?_
    refine fx_iload 0 dq_LA_law_344 rfl ?_
    refine fx_icmp_eq (tgt := 351) dq_LA_law_346 (by decide) (fun _ => ?_) (fun ne => absurd T1 ne)
    refine fx_goto (tgt := 1086) dq_LA_law_351 (by decide) ?_
    exact fx_sub [1, 2, 3, 4, 5] rfl (K _ _ _ I2)
  · obtain ⟨c, K1, K2, C1, M1, C2, T1, f2, b2, I2⟩ := L_place ok I (xs (nI (9 * t) + 1).toNatClampNeg) (xs (nI (9 * t) + 2).toNatClampNeg) (xs (nI (9 * t) + 3).toNatClampNeg) (xs (nI (9 * t) + 4).toNatClampNeg) (xs (nI (9 * t) + 5).toNatClampNeg) 1 (Or.inr rfl)
    refine fx_iconst (v := 1) dq_LA_law_281 (by decide) ?_
    refine fx_goto (tgt := 286) dq_LA_law_282 (by decide) ?_
    refine fx_Sb7 ok sq_LA_68 C1 (by decide) (Nat.le_of_ble_eq_true rfl) dq_LA_law_286 ?_
    refine fx_istore dq_LA_law_289 (by decide) rfl ?_
    refine fx_aload_n 3 dq_LA_law_291 rfl rfl ?_
    refine fx_aload_n 1 dq_LA_law_292 rfl rfl ?_
    refine fx_iload 5 dq_LA_law_293 rfl ?_
    refine fx_iconst (v := 1) dq_LA_law_295 (by decide) ?_
    refine fx_iadd dq_LA_law_296 ?_
    refine fx_sld hX hb (sc_in ht hL (by decide)) dq_LA_law_297 ?_
    refine fx_aload_n 1 dq_LA_law_298 rfl rfl ?_
    refine fx_iload 5 dq_LA_law_299 rfl ?_
    refine fx_iconst (v := 2) dq_LA_law_301 (by decide) ?_
    refine fx_iadd dq_LA_law_302 ?_
    refine fx_sld hX hb (sc_in ht hL (by decide)) dq_LA_law_303 ?_
    refine fx_aload_n 1 dq_LA_law_304 rfl rfl ?_
    refine fx_iload 5 dq_LA_law_305 rfl ?_
    refine fx_iconst (v := 3) dq_LA_law_307 (by decide) ?_
    refine fx_iadd dq_LA_law_308 ?_
    refine fx_sld hX hb (sc_in ht hL (by decide)) dq_LA_law_309 ?_
    refine fx_aload_n 1 dq_LA_law_310 rfl rfl ?_
    refine fx_iload 5 dq_LA_law_311 rfl ?_
    refine fx_iconst (v := 4) dq_LA_law_313 (by decide) ?_
    refine fx_iadd dq_LA_law_314 ?_
    refine fx_sld hX hb (sc_in ht hL (by decide)) dq_LA_law_315 ?_
    refine fx_aload_n 1 dq_LA_law_316 rfl rfl ?_
    refine fx_iload 5 dq_LA_law_317 rfl ?_
    refine fx_iconst (v := 5) dq_LA_law_319 (by decide) ?_
    refine fx_iadd dq_LA_law_320 ?_
    refine fx_sld hX hb (sc_in ht hL (by decide)) dq_LA_law_321 ?_
    refine fx_aload_n 1 dq_LA_law_322 rfl rfl ?_
    refine fx_iload 5 dq_LA_law_323 rfl ?_
    refine fx_bipush (v := 6) dq_LA_law_325 (by decide) ?_
    refine fx_iadd dq_LA_law_327 ?_
    refine fx_sld hX hb (sc_in ht hL (by decide)) dq_LA_law_328 ?_
    refine fx_if_eq (tgt := 336) dq_LA_law_329 (by decide) (fun e => absurd e hc) (fun _ => ?_)
    refine fx_iconst (v := 1) dq_LA_law_332 (by decide) ?_
    refine fx_goto (tgt := 337) dq_LA_law_333 (by decide) ?_
    refine fx_Vv6 ok sq_LA_71 M1.1 C2 (by decide) (Nat.le_of_ble_eq_true rfl) dq_LA_law_337 ?_
    refine fx_aload_n 3 dq_LA_law_340 rfl rfl ?_
    refine fx_Vi0 ok sq_LA_60 I2.2.1.1 (c_MO_thrown ok K2 q I2.2.1) (by decide) (Nat.le_of_ble_eq_true rfl) dq_LA_law_341 ?_
    refine fx_iload 0 dq_LA_law_344 rfl ?_
    refine fx_icmp_eq (tgt := 351) dq_LA_law_346 (by decide) (fun _ => ?_) (fun ne => absurd T1 ne)
    refine fx_goto (tgt := 1086) dq_LA_law_351 (by decide) ?_
    exact fx_sub [1, 2, 3, 4, 5] rfl (K _ _ _ I2)
set_option maxHeartbeats 1000000 in
theorem la_clip (ok : fx_ok g) (hX : va_X b0 L xs (fx_s0 g) (fx_s0 g).heap) (hb : b0 < fx_b g) {w q z f b t : Nat} (ht : 9 * t + 9 ≤ L) (hL : L ≤ 4608) (I : LI h w q z f b) (K : ∀ h' f' b', LI h' w q z f' b' → fx_X g mq_LA_law 1086 [(0, .ref b0), (1, .ref w), (2, .ref q), (3, .ref z), (4, .int (nI (9 * t)))] [] h' Q mc ms) : fx_X g mq_LA_law 354 [(0, .ref b0), (1, .ref w), (2, .ref q), (3, .ref z), (4, .int (nI (9 * t)))] [] h Q (1 + mc) (6 + ms) := by
  obtain ⟨c, K1, K2, C1, M1, C2, T1, f2, b2, I2⟩ := L_clip ok I (xs (nI (9 * t) + 1).toNatClampNeg) (xs (nI (9 * t) + 2).toNatClampNeg) (xs (nI (9 * t) + 3).toNatClampNeg) (xs (nI (9 * t) + 4).toNatClampNeg) (xs (nI (9 * t) + 5).toNatClampNeg)
  refine fx_aload_n 1 dq_LA_law_354 rfl rfl ?_
  refine fx_aload_n 0 dq_LA_law_355 rfl rfl ?_
  refine fx_iload 4 dq_LA_law_356 rfl ?_
  refine fx_iconst (v := 1) dq_LA_law_358 (by decide) ?_
  refine fx_iadd dq_LA_law_359 ?_
  refine fx_sld hX hb (sc_in ht hL (by decide)) dq_LA_law_360 ?_
  refine fx_aload_n 0 dq_LA_law_361 rfl rfl ?_
  refine fx_iload 4 dq_LA_law_362 rfl ?_
  refine fx_iconst (v := 2) dq_LA_law_364 (by decide) ?_
  refine fx_iadd dq_LA_law_365 ?_
  refine fx_sld hX hb (sc_in ht hL (by decide)) dq_LA_law_366 ?_
  refine fx_aload_n 0 dq_LA_law_367 rfl rfl ?_
  refine fx_iload 4 dq_LA_law_368 rfl ?_
  refine fx_iconst (v := 3) dq_LA_law_370 (by decide) ?_
  refine fx_iadd dq_LA_law_371 ?_
  refine fx_sld hX hb (sc_in ht hL (by decide)) dq_LA_law_372 ?_
  refine fx_aload_n 0 dq_LA_law_373 rfl rfl ?_
  refine fx_iload 4 dq_LA_law_374 rfl ?_
  refine fx_iconst (v := 4) dq_LA_law_376 (by decide) ?_
  refine fx_iadd dq_LA_law_377 ?_
  refine fx_sld hX hb (sc_in ht hL (by decide)) dq_LA_law_378 ?_
  refine fx_aload_n 0 dq_LA_law_379 rfl rfl ?_
  refine fx_iload 4 dq_LA_law_380 rfl ?_
  refine fx_iconst (v := 5) dq_LA_law_382 (by decide) ?_
  refine fx_iadd dq_LA_law_383 ?_
  refine fx_sld hX hb (sc_in ht hL (by decide)) dq_LA_law_384 ?_
  refine fx_Sb6 ok sq_LA_72 C1 (by decide) (Nat.le_of_ble_eq_true rfl) dq_LA_law_385 ?_
  refine fx_istore dq_LA_law_388 (by decide) rfl ?_
  refine fx_aload_n 3 dq_LA_law_390 rfl rfl ?_
  refine fx_aload_n 1 dq_LA_law_391 rfl rfl ?_
  refine fx_iload 5 dq_LA_law_392 rfl ?_
  refine fx_iconst (v := 1) dq_LA_law_394 (by decide) ?_
  refine fx_iadd dq_LA_law_395 ?_
  refine fx_sld hX hb (sc_in ht hL (by decide)) dq_LA_law_396 ?_
  refine fx_aload_n 1 dq_LA_law_397 rfl rfl ?_
  refine fx_iload 5 dq_LA_law_398 rfl ?_
  refine fx_iconst (v := 2) dq_LA_law_400 (by decide) ?_
  refine fx_iadd dq_LA_law_401 ?_
  refine fx_sld hX hb (sc_in ht hL (by decide)) dq_LA_law_402 ?_
  refine fx_aload_n 1 dq_LA_law_403 rfl rfl ?_
  refine fx_iload 5 dq_LA_law_404 rfl ?_
  refine fx_iconst (v := 3) dq_LA_law_406 (by decide) ?_
  refine fx_iadd dq_LA_law_407 ?_
  refine fx_sld hX hb (sc_in ht hL (by decide)) dq_LA_law_408 ?_
  refine fx_aload_n 1 dq_LA_law_409 rfl rfl ?_
  refine fx_iload 5 dq_LA_law_410 rfl ?_
  refine fx_iconst (v := 4) dq_LA_law_412 (by decide) ?_
  refine fx_iadd dq_LA_law_413 ?_
  refine fx_sld hX hb (sc_in ht hL (by decide)) dq_LA_law_414 ?_
  refine fx_aload_n 1 dq_LA_law_415 rfl rfl ?_
  refine fx_iload 5 dq_LA_law_416 rfl ?_
  refine fx_iconst (v := 5) dq_LA_law_418 (by decide) ?_
  refine fx_iadd dq_LA_law_419 ?_
  refine fx_sld hX hb (sc_in ht hL (by decide)) dq_LA_law_420 ?_
  refine fx_Vv5 ok sq_LA_75 M1.1 C2 (by decide) (Nat.le_of_ble_eq_true rfl) dq_LA_law_421 ?_
  refine fx_aload_n 3 dq_LA_law_424 rfl rfl ?_
  refine fx_Vi0 ok sq_LA_60 I2.2.1.1 (c_MO_thrown ok K2 q I2.2.1) (by decide) (Nat.le_of_ble_eq_true rfl) dq_LA_law_425 ?_
  refine fx_iload 0 dq_LA_law_428 rfl ?_
  refine fx_icmp_eq (tgt := 435) dq_LA_law_430 (by decide) (fun _ => ?_) (fun ne => absurd T1 ne)
  refine fx_goto (tgt := 1086) dq_LA_law_435 (by decide) ?_
  exact fx_sub [1, 2, 3, 4, 5] rfl (K _ _ _ I2)
set_option maxHeartbeats 1000000 in
theorem la_put (ok : fx_ok g) (hX : va_X b0 L xs (fx_s0 g) (fx_s0 g).heap) (hb : b0 < fx_b g) {w q z f b t : Nat} (ht : 9 * t + 9 ≤ L) (hL : L ≤ 4608) (I : LI h w q z f b) (K : ∀ h' f' b', LI h' w q z f' b' → fx_X g mq_LA_law 1086 [(0, .ref b0), (1, .ref w), (2, .ref q), (3, .ref z), (4, .int (nI (9 * t)))] [] h' Q mc ms) : fx_X g mq_LA_law 438 [(0, .ref b0), (1, .ref w), (2, .ref q), (3, .ref z), (4, .int (nI (9 * t)))] [] h Q (1 + mc) (6 + ms) := by
  obtain ⟨c, K1, K2, C1, M1, C2, T1, f2, b2, I2⟩ := L_put ok I (xs (nI (9 * t) + 1).toNatClampNeg) (xs (nI (9 * t) + 2).toNatClampNeg) (xs (nI (9 * t) + 3).toNatClampNeg) (xs (nI (9 * t) + 4).toNatClampNeg)
  refine fx_aload_n 1 dq_LA_law_438 rfl rfl ?_
  refine fx_aload_n 0 dq_LA_law_439 rfl rfl ?_
  refine fx_iload 4 dq_LA_law_440 rfl ?_
  refine fx_iconst (v := 1) dq_LA_law_442 (by decide) ?_
  refine fx_iadd dq_LA_law_443 ?_
  refine fx_sld hX hb (sc_in ht hL (by decide)) dq_LA_law_444 ?_
  refine fx_aload_n 0 dq_LA_law_445 rfl rfl ?_
  refine fx_iload 4 dq_LA_law_446 rfl ?_
  refine fx_iconst (v := 2) dq_LA_law_448 (by decide) ?_
  refine fx_iadd dq_LA_law_449 ?_
  refine fx_sld hX hb (sc_in ht hL (by decide)) dq_LA_law_450 ?_
  refine fx_aload_n 0 dq_LA_law_451 rfl rfl ?_
  refine fx_iload 4 dq_LA_law_452 rfl ?_
  refine fx_iconst (v := 3) dq_LA_law_454 (by decide) ?_
  refine fx_iadd dq_LA_law_455 ?_
  refine fx_sld hX hb (sc_in ht hL (by decide)) dq_LA_law_456 ?_
  refine fx_aload_n 0 dq_LA_law_457 rfl rfl ?_
  refine fx_iload 4 dq_LA_law_458 rfl ?_
  refine fx_iconst (v := 4) dq_LA_law_460 (by decide) ?_
  refine fx_iadd dq_LA_law_461 ?_
  refine fx_sld hX hb (sc_in ht hL (by decide)) dq_LA_law_462 ?_
  refine fx_Sb5 ok sq_LA_76 C1 (by decide) (Nat.le_of_ble_eq_true rfl) dq_LA_law_463 ?_
  refine fx_istore dq_LA_law_466 (by decide) rfl ?_
  refine fx_aload_n 3 dq_LA_law_468 rfl rfl ?_
  refine fx_aload_n 1 dq_LA_law_469 rfl rfl ?_
  refine fx_iload 5 dq_LA_law_470 rfl ?_
  refine fx_iconst (v := 1) dq_LA_law_472 (by decide) ?_
  refine fx_iadd dq_LA_law_473 ?_
  refine fx_sld hX hb (sc_in ht hL (by decide)) dq_LA_law_474 ?_
  refine fx_aload_n 1 dq_LA_law_475 rfl rfl ?_
  refine fx_iload 5 dq_LA_law_476 rfl ?_
  refine fx_iconst (v := 2) dq_LA_law_478 (by decide) ?_
  refine fx_iadd dq_LA_law_479 ?_
  refine fx_sld hX hb (sc_in ht hL (by decide)) dq_LA_law_480 ?_
  refine fx_aload_n 1 dq_LA_law_481 rfl rfl ?_
  refine fx_iload 5 dq_LA_law_482 rfl ?_
  refine fx_iconst (v := 3) dq_LA_law_484 (by decide) ?_
  refine fx_iadd dq_LA_law_485 ?_
  refine fx_sld hX hb (sc_in ht hL (by decide)) dq_LA_law_486 ?_
  refine fx_aload_n 1 dq_LA_law_487 rfl rfl ?_
  refine fx_iload 5 dq_LA_law_488 rfl ?_
  refine fx_iconst (v := 4) dq_LA_law_490 (by decide) ?_
  refine fx_iadd dq_LA_law_491 ?_
  refine fx_sld hX hb (sc_in ht hL (by decide)) dq_LA_law_492 ?_
  refine fx_Vv4 ok sq_LA_79 M1.1 C2 (by decide) (Nat.le_of_ble_eq_true rfl) dq_LA_law_493 ?_
  refine fx_aload_n 3 dq_LA_law_496 rfl rfl ?_
  refine fx_Vi0 ok sq_LA_60 I2.2.1.1 (c_MO_thrown ok K2 q I2.2.1) (by decide) (Nat.le_of_ble_eq_true rfl) dq_LA_law_497 ?_
  refine fx_iload 0 dq_LA_law_500 rfl ?_
  refine fx_icmp_eq (tgt := 507) dq_LA_law_502 (by decide) (fun _ => ?_) (fun ne => absurd T1 ne)
  refine fx_goto (tgt := 1086) dq_LA_law_507 (by decide) ?_
  exact fx_sub [1, 2, 3, 4, 5] rfl (K _ _ _ I2)
set_option maxHeartbeats 1000000 in
theorem la_fill (ok : fx_ok g) (hX : va_X b0 L xs (fx_s0 g) (fx_s0 g).heap) (hb : b0 < fx_b g) {w q z f b t : Nat} (ht : 9 * t + 9 ≤ L) (hL : L ≤ 4608) (I : LI h w q z f b) (K : ∀ h' f' b', LI h' w q z f' b' → fx_X g mq_LA_law 1086 [(0, .ref b0), (1, .ref w), (2, .ref q), (3, .ref z), (4, .int (nI (9 * t)))] [] h' Q mc ms) : fx_X g mq_LA_law 510 [(0, .ref b0), (1, .ref w), (2, .ref q), (3, .ref z), (4, .int (nI (9 * t)))] [] h Q (1 + mc) (6 + ms) := by
  obtain ⟨c, K1, v, K2, C1, M1, C2, T1, A1, f2, b2, I2⟩ := L_fill ok I (xs (nI (9 * t) + 1).toNatClampNeg) (xs (nI (9 * t) + 2).toNatClampNeg) (xs (nI (9 * t) + 3).toNatClampNeg) (xs (nI (9 * t) + 4).toNatClampNeg) (xs (nI (9 * t) + 5).toNatClampNeg) (xs (nI (9 * t) + 6).toNatClampNeg)
  refine fx_aload_n 1 dq_LA_law_510 rfl rfl ?_
  refine fx_aload_n 0 dq_LA_law_511 rfl rfl ?_
  refine fx_iload 4 dq_LA_law_512 rfl ?_
  refine fx_iconst (v := 1) dq_LA_law_514 (by decide) ?_
  refine fx_iadd dq_LA_law_515 ?_
  refine fx_sld hX hb (sc_in ht hL (by decide)) dq_LA_law_516 ?_
  refine fx_aload_n 0 dq_LA_law_517 rfl rfl ?_
  refine fx_iload 4 dq_LA_law_518 rfl ?_
  refine fx_iconst (v := 2) dq_LA_law_520 (by decide) ?_
  refine fx_iadd dq_LA_law_521 ?_
  refine fx_sld hX hb (sc_in ht hL (by decide)) dq_LA_law_522 ?_
  refine fx_aload_n 0 dq_LA_law_523 rfl rfl ?_
  refine fx_iload 4 dq_LA_law_524 rfl ?_
  refine fx_iconst (v := 3) dq_LA_law_526 (by decide) ?_
  refine fx_iadd dq_LA_law_527 ?_
  refine fx_sld hX hb (sc_in ht hL (by decide)) dq_LA_law_528 ?_
  refine fx_aload_n 0 dq_LA_law_529 rfl rfl ?_
  refine fx_iload 4 dq_LA_law_530 rfl ?_
  refine fx_iconst (v := 4) dq_LA_law_532 (by decide) ?_
  refine fx_iadd dq_LA_law_533 ?_
  refine fx_sld hX hb (sc_in ht hL (by decide)) dq_LA_law_534 ?_
  refine fx_aload_n 0 dq_LA_law_535 rfl rfl ?_
  refine fx_iload 4 dq_LA_law_536 rfl ?_
  refine fx_iconst (v := 5) dq_LA_law_538 (by decide) ?_
  refine fx_iadd dq_LA_law_539 ?_
  refine fx_sld hX hb (sc_in ht hL (by decide)) dq_LA_law_540 ?_
  refine fx_aload_n 0 dq_LA_law_541 rfl rfl ?_
  refine fx_iload 4 dq_LA_law_542 rfl ?_
  refine fx_bipush (v := 6) dq_LA_law_544 (by decide) ?_
  refine fx_iadd dq_LA_law_546 ?_
  refine fx_sld hX hb (sc_in ht hL (by decide)) dq_LA_law_547 ?_
  refine fx_aload_n 3 dq_LA_law_548 rfl rfl ?_
  refine fx_Sb8 ok sq_LA_80 C1 (by decide) (Nat.le_of_ble_eq_true rfl) dq_LA_law_549 ?_
  refine fx_istore dq_LA_law_552 (by decide) rfl ?_
  refine fx_aload_n 3 dq_LA_law_554 rfl rfl ?_
  refine fx_aload_n 1 dq_LA_law_555 rfl rfl ?_
  refine fx_iload 5 dq_LA_law_556 rfl ?_
  refine fx_iconst (v := 1) dq_LA_law_558 (by decide) ?_
  refine fx_iadd dq_LA_law_559 ?_
  refine fx_sld hX hb (sc_in ht hL (by decide)) dq_LA_law_560 ?_
  refine fx_aload_n 1 dq_LA_law_561 rfl rfl ?_
  refine fx_iload 5 dq_LA_law_562 rfl ?_
  refine fx_iconst (v := 2) dq_LA_law_564 (by decide) ?_
  refine fx_iadd dq_LA_law_565 ?_
  refine fx_sld hX hb (sc_in ht hL (by decide)) dq_LA_law_566 ?_
  refine fx_aload_n 1 dq_LA_law_567 rfl rfl ?_
  refine fx_iload 5 dq_LA_law_568 rfl ?_
  refine fx_iconst (v := 3) dq_LA_law_570 (by decide) ?_
  refine fx_iadd dq_LA_law_571 ?_
  refine fx_sld hX hb (sc_in ht hL (by decide)) dq_LA_law_572 ?_
  refine fx_aload_n 1 dq_LA_law_573 rfl rfl ?_
  refine fx_iload 5 dq_LA_law_574 rfl ?_
  refine fx_iconst (v := 4) dq_LA_law_576 (by decide) ?_
  refine fx_iadd dq_LA_law_577 ?_
  refine fx_sld hX hb (sc_in ht hL (by decide)) dq_LA_law_578 ?_
  refine fx_aload_n 1 dq_LA_law_579 rfl rfl ?_
  refine fx_iload 5 dq_LA_law_580 rfl ?_
  refine fx_iconst (v := 5) dq_LA_law_582 (by decide) ?_
  refine fx_iadd dq_LA_law_583 ?_
  refine fx_sld hX hb (sc_in ht hL (by decide)) dq_LA_law_584 ?_
  refine fx_aload_n 1 dq_LA_law_585 rfl rfl ?_
  refine fx_iload 5 dq_LA_law_586 rfl ?_
  refine fx_bipush (v := 6) dq_LA_law_588 (by decide) ?_
  refine fx_iadd dq_LA_law_590 ?_
  refine fx_sld hX hb (sc_in ht hL (by decide)) dq_LA_law_591 ?_
  refine fx_Vi6 ok sq_LA_83 M1.1 C2 (by decide) (Nat.le_of_ble_eq_true rfl) dq_LA_law_592 ?_
  refine fx_istore dq_LA_law_595 (by decide) rfl ?_
  refine fx_aload_n 4 dq_LA_law_597 rfl rfl ?_
  refine fx_Vi0 ok sq_LA_60 I2.2.1.1 (c_MO_thrown ok K2 q I2.2.1) (by decide) (Nat.le_of_ble_eq_true rfl) dq_LA_law_598 ?_
  refine fx_iload 1 dq_LA_law_601 rfl ?_
  refine fx_icmp_eq (tgt := 608) dq_LA_law_603 (by decide) (fun _ => ?_) (fun ne => absurd T1 ne)
  refine fx_iload 1 dq_LA_law_608 rfl ?_
  refine fx_if_ne (tgt := 625) dq_LA_law_610 (by decide) (fun _ => ?_) (fun e0 => ?_)
  · refine fx_goto (tgt := 1086) dq_LA_law_625 (by decide) ?_
    exact fx_sub [2, 3, 4, 5, 6] rfl (K _ _ _ I2)
  · refine fx_aload_n 5 dq_LA_law_613 rfl rfl ?_
    refine fx_iconst (v := 0) dq_LA_law_614 (by decide) ?_
    refine fx_laload ok I2.2.2.2.1 (by unfold vp_in; decide) dq_LA_law_615 ?_
    refine fx_iload 0 dq_LA_law_616 rfl ?_
    refine fx_i2l dq_LA_law_618 ?_
    refine fx_lcmp dq_LA_law_619 ?_
    refine fx_if_eq (tgt := 625) dq_LA_law_620 (by decide) (fun _ => ?_) (fun ne => absurd (cmp0 (A1 e0)) ne)
    refine fx_goto (tgt := 1086) dq_LA_law_625 (by decide) ?_
    exact fx_sub [2, 3, 4, 5, 6] rfl (K _ _ _ I2)
set_option maxHeartbeats 1000000 in
theorem la_copy (ok : fx_ok g) (hX : va_X b0 L xs (fx_s0 g) (fx_s0 g).heap) (hb : b0 < fx_b g) {w q z f b t : Nat} (ht : 9 * t + 9 ≤ L) (hL : L ≤ 4608) (I : LI h w q z f b) (K : ∀ h' f' b', LI h' w q z f' b' → fx_X g mq_LA_law 1086 [(0, .ref b0), (1, .ref w), (2, .ref q), (3, .ref z), (4, .int (nI (9 * t)))] [] h' Q mc ms) : fx_X g mq_LA_law 628 [(0, .ref b0), (1, .ref w), (2, .ref q), (3, .ref z), (4, .int (nI (9 * t)))] [] h Q (1 + mc) (6 + ms) := by
  obtain ⟨c, K1, v, K2, C1, M1, C2, T1, A1, f2, b2, I2⟩ := L_copy ok I (xs (nI (9 * t) + 1).toNatClampNeg) (xs (nI (9 * t) + 2).toNatClampNeg) (xs (nI (9 * t) + 3).toNatClampNeg) (xs (nI (9 * t) + 4).toNatClampNeg) (xs (nI (9 * t) + 5).toNatClampNeg) (xs (nI (9 * t) + 6).toNatClampNeg) (xs (nI (9 * t) + 7).toNatClampNeg) (xs (nI (9 * t) + 8).toNatClampNeg)
  refine fx_aload_n 1 dq_LA_law_628 rfl rfl ?_
  refine fx_aload_n 0 dq_LA_law_629 rfl rfl ?_
  refine fx_iload 4 dq_LA_law_630 rfl ?_
  refine fx_iconst (v := 1) dq_LA_law_632 (by decide) ?_
  refine fx_iadd dq_LA_law_633 ?_
  refine fx_sld hX hb (sc_in ht hL (by decide)) dq_LA_law_634 ?_
  refine fx_aload_n 0 dq_LA_law_635 rfl rfl ?_
  refine fx_iload 4 dq_LA_law_636 rfl ?_
  refine fx_iconst (v := 2) dq_LA_law_638 (by decide) ?_
  refine fx_iadd dq_LA_law_639 ?_
  refine fx_sld hX hb (sc_in ht hL (by decide)) dq_LA_law_640 ?_
  refine fx_aload_n 0 dq_LA_law_641 rfl rfl ?_
  refine fx_iload 4 dq_LA_law_642 rfl ?_
  refine fx_iconst (v := 3) dq_LA_law_644 (by decide) ?_
  refine fx_iadd dq_LA_law_645 ?_
  refine fx_sld hX hb (sc_in ht hL (by decide)) dq_LA_law_646 ?_
  refine fx_aload_n 0 dq_LA_law_647 rfl rfl ?_
  refine fx_iload 4 dq_LA_law_648 rfl ?_
  refine fx_iconst (v := 4) dq_LA_law_650 (by decide) ?_
  refine fx_iadd dq_LA_law_651 ?_
  refine fx_sld hX hb (sc_in ht hL (by decide)) dq_LA_law_652 ?_
  refine fx_aload_n 0 dq_LA_law_653 rfl rfl ?_
  refine fx_iload 4 dq_LA_law_654 rfl ?_
  refine fx_iconst (v := 5) dq_LA_law_656 (by decide) ?_
  refine fx_iadd dq_LA_law_657 ?_
  refine fx_sld hX hb (sc_in ht hL (by decide)) dq_LA_law_658 ?_
  refine fx_aload_n 0 dq_LA_law_659 rfl rfl ?_
  refine fx_iload 4 dq_LA_law_660 rfl ?_
  refine fx_bipush (v := 6) dq_LA_law_662 (by decide) ?_
  refine fx_iadd dq_LA_law_664 ?_
  refine fx_sld hX hb (sc_in ht hL (by decide)) dq_LA_law_665 ?_
  refine fx_aload_n 0 dq_LA_law_666 rfl rfl ?_
  refine fx_iload 4 dq_LA_law_667 rfl ?_
  refine fx_bipush (v := 7) dq_LA_law_669 (by decide) ?_
  refine fx_iadd dq_LA_law_671 ?_
  refine fx_sld hX hb (sc_in ht hL (by decide)) dq_LA_law_672 ?_
  refine fx_aload_n 0 dq_LA_law_673 rfl rfl ?_
  refine fx_iload 4 dq_LA_law_674 rfl ?_
  refine fx_bipush (v := 8) dq_LA_law_676 (by decide) ?_
  refine fx_iadd dq_LA_law_678 ?_
  refine fx_sld hX hb (sc_in ht hL (by decide)) dq_LA_law_679 ?_
  refine fx_aload_n 3 dq_LA_law_680 rfl rfl ?_
  refine fx_Sb10 ok sq_LA_84 C1 (by decide) (Nat.le_of_ble_eq_true rfl) dq_LA_law_681 ?_
  refine fx_istore dq_LA_law_684 (by decide) rfl ?_
  refine fx_aload_n 3 dq_LA_law_686 rfl rfl ?_
  refine fx_aload_n 1 dq_LA_law_687 rfl rfl ?_
  refine fx_iload 5 dq_LA_law_688 rfl ?_
  refine fx_iconst (v := 1) dq_LA_law_690 (by decide) ?_
  refine fx_iadd dq_LA_law_691 ?_
  refine fx_sld hX hb (sc_in ht hL (by decide)) dq_LA_law_692 ?_
  refine fx_aload_n 1 dq_LA_law_693 rfl rfl ?_
  refine fx_iload 5 dq_LA_law_694 rfl ?_
  refine fx_iconst (v := 2) dq_LA_law_696 (by decide) ?_
  refine fx_iadd dq_LA_law_697 ?_
  refine fx_sld hX hb (sc_in ht hL (by decide)) dq_LA_law_698 ?_
  refine fx_aload_n 1 dq_LA_law_699 rfl rfl ?_
  refine fx_iload 5 dq_LA_law_700 rfl ?_
  refine fx_iconst (v := 3) dq_LA_law_702 (by decide) ?_
  refine fx_iadd dq_LA_law_703 ?_
  refine fx_sld hX hb (sc_in ht hL (by decide)) dq_LA_law_704 ?_
  refine fx_aload_n 1 dq_LA_law_705 rfl rfl ?_
  refine fx_iload 5 dq_LA_law_706 rfl ?_
  refine fx_iconst (v := 4) dq_LA_law_708 (by decide) ?_
  refine fx_iadd dq_LA_law_709 ?_
  refine fx_sld hX hb (sc_in ht hL (by decide)) dq_LA_law_710 ?_
  refine fx_aload_n 1 dq_LA_law_711 rfl rfl ?_
  refine fx_iload 5 dq_LA_law_712 rfl ?_
  refine fx_iconst (v := 5) dq_LA_law_714 (by decide) ?_
  refine fx_iadd dq_LA_law_715 ?_
  refine fx_sld hX hb (sc_in ht hL (by decide)) dq_LA_law_716 ?_
  refine fx_aload_n 1 dq_LA_law_717 rfl rfl ?_
  refine fx_iload 5 dq_LA_law_718 rfl ?_
  refine fx_bipush (v := 6) dq_LA_law_720 (by decide) ?_
  refine fx_iadd dq_LA_law_722 ?_
  refine fx_sld hX hb (sc_in ht hL (by decide)) dq_LA_law_723 ?_
  refine fx_aload_n 1 dq_LA_law_724 rfl rfl ?_
  refine fx_iload 5 dq_LA_law_725 rfl ?_
  refine fx_bipush (v := 7) dq_LA_law_727 (by decide) ?_
  refine fx_iadd dq_LA_law_729 ?_
  refine fx_sld hX hb (sc_in ht hL (by decide)) dq_LA_law_730 ?_
  refine fx_aload_n 1 dq_LA_law_731 rfl rfl ?_
  refine fx_iload 5 dq_LA_law_732 rfl ?_
  refine fx_bipush (v := 8) dq_LA_law_734 (by decide) ?_
  refine fx_iadd dq_LA_law_736 ?_
  refine fx_sld hX hb (sc_in ht hL (by decide)) dq_LA_law_737 ?_
  refine fx_Vi8 ok sq_LA_87 M1.1 C2 (by decide) (Nat.le_of_ble_eq_true rfl) dq_LA_law_738 ?_
  refine fx_istore dq_LA_law_741 (by decide) rfl ?_
  refine fx_aload_n 4 dq_LA_law_743 rfl rfl ?_
  refine fx_Vi0 ok sq_LA_60 I2.2.1.1 (c_MO_thrown ok K2 q I2.2.1) (by decide) (Nat.le_of_ble_eq_true rfl) dq_LA_law_744 ?_
  refine fx_iload 1 dq_LA_law_747 rfl ?_
  refine fx_icmp_eq (tgt := 754) dq_LA_law_749 (by decide) (fun _ => ?_) (fun ne => absurd T1 ne)
  refine fx_iload 1 dq_LA_law_754 rfl ?_
  refine fx_if_ne (tgt := 771) dq_LA_law_756 (by decide) (fun _ => ?_) (fun e0 => ?_)
  · refine fx_goto (tgt := 1086) dq_LA_law_771 (by decide) ?_
    exact fx_sub [2, 3, 4, 5, 6] rfl (K _ _ _ I2)
  · refine fx_aload_n 5 dq_LA_law_759 rfl rfl ?_
    refine fx_iconst (v := 0) dq_LA_law_760 (by decide) ?_
    refine fx_laload ok I2.2.2.2.1 (by unfold vp_in; decide) dq_LA_law_761 ?_
    refine fx_iload 0 dq_LA_law_762 rfl ?_
    refine fx_i2l dq_LA_law_764 ?_
    refine fx_lcmp dq_LA_law_765 ?_
    refine fx_if_eq (tgt := 771) dq_LA_law_766 (by decide) (fun _ => ?_) (fun ne => absurd (cmp0 (A1 e0)) ne)
    refine fx_goto (tgt := 1086) dq_LA_law_771 (by decide) ?_
    exact fx_sub [2, 3, 4, 5, 6] rfl (K _ _ _ I2)
set_option maxHeartbeats 1000000 in
theorem la_commit (ok : fx_ok g) (hX : va_X b0 L xs (fx_s0 g) (fx_s0 g).heap) (hb : b0 < fx_b g) {w q z f b t : Nat} (ht : 9 * t + 9 ≤ L) (hL : L ≤ 4608) (I : LI h w q z f b) (K : ∀ h' f' b', LI h' w q z f' b' → fx_X g mq_LA_law 1086 [(0, .ref b0), (1, .ref w), (2, .ref q), (3, .ref z), (4, .int (nI (9 * t)))] [] h' Q mc ms) : fx_X g mq_LA_law 774 [(0, .ref b0), (1, .ref w), (2, .ref q), (3, .ref z), (4, .int (nI (9 * t)))] [] h Q (1 + mc) (6 + ms) := by
  obtain ⟨c, K1, v, K2, C1, M1, C2, T1, A1, f2, b2, I2⟩ := L_commit ok I (xs (nI (9 * t) + 1).toNatClampNeg)
  refine fx_aload_n 1 dq_LA_law_774 rfl rfl ?_
  refine fx_aload_n 0 dq_LA_law_775 rfl rfl ?_
  refine fx_iload 4 dq_LA_law_776 rfl ?_
  refine fx_iconst (v := 1) dq_LA_law_778 (by decide) ?_
  refine fx_iadd dq_LA_law_779 ?_
  refine fx_sld hX hb (sc_in ht hL (by decide)) dq_LA_law_780 ?_
  refine fx_aload_n 3 dq_LA_law_781 rfl rfl ?_
  refine fx_Sb3 ok sq_LA_88 C1 (by decide) (Nat.le_of_ble_eq_true rfl) dq_LA_law_782 ?_
  refine fx_istore dq_LA_law_785 (by decide) rfl ?_
  refine fx_aload_n 3 dq_LA_law_787 rfl rfl ?_
  refine fx_aload_n 1 dq_LA_law_788 rfl rfl ?_
  refine fx_iload 5 dq_LA_law_789 rfl ?_
  refine fx_iconst (v := 1) dq_LA_law_791 (by decide) ?_
  refine fx_iadd dq_LA_law_792 ?_
  refine fx_sld hX hb (sc_in ht hL (by decide)) dq_LA_law_793 ?_
  refine fx_Vi1 ok sq_LA_91 M1.1 C2 (by decide) (Nat.le_of_ble_eq_true rfl) dq_LA_law_794 ?_
  refine fx_istore dq_LA_law_797 (by decide) rfl ?_
  refine fx_aload_n 4 dq_LA_law_799 rfl rfl ?_
  refine fx_Vi0 ok sq_LA_60 I2.2.1.1 (c_MO_thrown ok K2 q I2.2.1) (by decide) (Nat.le_of_ble_eq_true rfl) dq_LA_law_800 ?_
  refine fx_iload 1 dq_LA_law_803 rfl ?_
  refine fx_icmp_eq (tgt := 810) dq_LA_law_805 (by decide) (fun _ => ?_) (fun ne => absurd T1 ne)
  refine fx_iload 1 dq_LA_law_810 rfl ?_
  refine fx_if_ne (tgt := 827) dq_LA_law_812 (by decide) (fun _ => ?_) (fun e0 => ?_)
  · refine fx_goto (tgt := 1086) dq_LA_law_827 (by decide) ?_
    exact fx_sub [2, 3, 4, 5, 6] rfl (K _ _ _ I2)
  · refine fx_aload_n 5 dq_LA_law_815 rfl rfl ?_
    refine fx_iconst (v := 0) dq_LA_law_816 (by decide) ?_
    refine fx_laload ok I2.2.2.2.1 (by unfold vp_in; decide) dq_LA_law_817 ?_
    refine fx_iload 0 dq_LA_law_818 rfl ?_
    refine fx_i2l dq_LA_law_820 ?_
    refine fx_lcmp dq_LA_law_821 ?_
    refine fx_if_eq (tgt := 827) dq_LA_law_822 (by decide) (fun _ => ?_) (fun ne => absurd (cmp0 (A1 e0)) ne)
    refine fx_goto (tgt := 1086) dq_LA_law_827 (by decide) ?_
    exact fx_sub [2, 3, 4, 5, 6] rfl (K _ _ _ I2)
set_option maxHeartbeats 1000000 in
theorem la_draw (ok : fx_ok g) (hX : va_X b0 L xs (fx_s0 g) (fx_s0 g).heap) (hb : b0 < fx_b g) {w q z f b t : Nat} (ht : 9 * t + 9 ≤ L) (hL : L ≤ 4608) (I : LI h w q z f b) (K : ∀ h' f' b', LI h' w q z f' b' → fx_X g mq_LA_law 1086 [(0, .ref b0), (1, .ref w), (2, .ref q), (3, .ref z), (4, .int (nI (9 * t)))] [] h' Q mc ms) : fx_X g mq_LA_law 830 [(0, .ref b0), (1, .ref w), (2, .ref q), (3, .ref z), (4, .int (nI (9 * t)))] [] h Q (1 + mc) (6 + ms) := by
  obtain ⟨c, K1, v, K2, C1, M1, C2, T1, A1, f2, b2, I2⟩ := L_draw ok I (xs (nI (9 * t) + 1).toNatClampNeg)
  refine fx_aload_n 1 dq_LA_law_830 rfl rfl ?_
  refine fx_aload_n 0 dq_LA_law_831 rfl rfl ?_
  refine fx_iload 4 dq_LA_law_832 rfl ?_
  refine fx_iconst (v := 1) dq_LA_law_834 (by decide) ?_
  refine fx_iadd dq_LA_law_835 ?_
  refine fx_sld hX hb (sc_in ht hL (by decide)) dq_LA_law_836 ?_
  refine fx_aload_n 3 dq_LA_law_837 rfl rfl ?_
  refine fx_Sb3 ok sq_LA_92 C1 (by decide) (Nat.le_of_ble_eq_true rfl) dq_LA_law_838 ?_
  refine fx_istore dq_LA_law_841 (by decide) rfl ?_
  refine fx_aload_n 3 dq_LA_law_843 rfl rfl ?_
  refine fx_aload_n 1 dq_LA_law_844 rfl rfl ?_
  refine fx_iload 5 dq_LA_law_845 rfl ?_
  refine fx_iconst (v := 1) dq_LA_law_847 (by decide) ?_
  refine fx_iadd dq_LA_law_848 ?_
  refine fx_sld hX hb (sc_in ht hL (by decide)) dq_LA_law_849 ?_
  refine fx_Vi1 ok sq_LA_94 M1.1 C2 (by decide) (Nat.le_of_ble_eq_true rfl) dq_LA_law_850 ?_
  refine fx_istore dq_LA_law_853 (by decide) rfl ?_
  refine fx_aload_n 4 dq_LA_law_855 rfl rfl ?_
  refine fx_Vi0 ok sq_LA_60 I2.2.1.1 (c_MO_thrown ok K2 q I2.2.1) (by decide) (Nat.le_of_ble_eq_true rfl) dq_LA_law_856 ?_
  refine fx_iload 1 dq_LA_law_859 rfl ?_
  refine fx_icmp_eq (tgt := 866) dq_LA_law_861 (by decide) (fun _ => ?_) (fun ne => absurd T1 ne)
  refine fx_iload 1 dq_LA_law_866 rfl ?_
  refine fx_if_ne (tgt := 883) dq_LA_law_868 (by decide) (fun _ => ?_) (fun e0 => ?_)
  · refine fx_goto (tgt := 1086) dq_LA_law_883 (by decide) ?_
    exact fx_sub [2, 3, 4, 5, 6] rfl (K _ _ _ I2)
  · refine fx_aload_n 5 dq_LA_law_871 rfl rfl ?_
    refine fx_iconst (v := 0) dq_LA_law_872 (by decide) ?_
    refine fx_laload ok I2.2.2.2.1 (by unfold vp_in; decide) dq_LA_law_873 ?_
    refine fx_iload 0 dq_LA_law_874 rfl ?_
    refine fx_i2l dq_LA_law_876 ?_
    refine fx_lcmp dq_LA_law_877 ?_
    refine fx_if_eq (tgt := 883) dq_LA_law_878 (by decide) (fun _ => ?_) (fun ne => absurd (cmp0 (A1 e0)) ne)
    refine fx_goto (tgt := 1086) dq_LA_law_883 (by decide) ?_
    exact fx_sub [2, 3, 4, 5, 6] rfl (K _ _ _ I2)
set_option maxHeartbeats 1000000 in
theorem la_scan (ok : fx_ok g) (hX : va_X b0 L xs (fx_s0 g) (fx_s0 g).heap) (hb : b0 < fx_b g) {w q z f b t : Nat} (ht : 9 * t + 9 ≤ L) (hL : L ≤ 4608) (I : LI h w q z f b) (K : ∀ h' f' b', LI h' w q z f' b' → fx_X g mq_LA_law 1086 [(0, .ref b0), (1, .ref w), (2, .ref q), (3, .ref z), (4, .int (nI (9 * t)))] [] h' Q mc ms) : fx_X g mq_LA_law 886 [(0, .ref b0), (1, .ref w), (2, .ref q), (3, .ref z), (4, .int (nI (9 * t)))] [] h Q (1 + mc) (6 + ms) := by
  refine fx_widen (Nat.le_add_left _ _) (Nat.le_add_left _ _) ?_
  obtain ⟨v, K1, K2, C1, M1, C2, f2, b2, I2⟩ := Q_scan ok I 
  refine fx_aload_n 1 dq_LA_law_886 rfl rfl ?_
  refine fx_Vi0 ok sq_LA_95 I.1.1 C1 (by decide) (Nat.le_of_ble_eq_true rfl) dq_LA_law_887 ?_
  refine fx_aload_n 2 dq_LA_law_890 rfl rfl ?_
  refine fx_Vi0 ok sq_LA_98 M1.1 C2 (by decide) (Nat.le_of_ble_eq_true rfl) dq_LA_law_891 ?_
  exact fx_icmp_eq (tgt := 1086) dq_LA_law_894 (by decide) (fun _ => K _ _ _ I2) (fun ne => absurd rfl ne)
set_option maxHeartbeats 1000000 in
theorem la_state (ok : fx_ok g) (hX : va_X b0 L xs (fx_s0 g) (fx_s0 g).heap) (hb : b0 < fx_b g) {w q z f b t : Nat} (ht : 9 * t + 9 ≤ L) (hL : L ≤ 4608) (I : LI h w q z f b) (K : ∀ h' f' b', LI h' w q z f' b' → fx_X g mq_LA_law 1086 [(0, .ref b0), (1, .ref w), (2, .ref q), (3, .ref z), (4, .int (nI (9 * t)))] [] h' Q mc ms) : fx_X g mq_LA_law 899 [(0, .ref b0), (1, .ref w), (2, .ref q), (3, .ref z), (4, .int (nI (9 * t)))] [] h Q (1 + mc) (6 + ms) := by
  refine fx_widen (Nat.le_add_left _ _) (Nat.le_add_left _ _) ?_
  obtain ⟨v, K1, K2, C1, M1, C2, f2, b2, I2⟩ := Q_state ok I 
  refine fx_aload_n 1 dq_LA_law_899 rfl rfl ?_
  refine fx_Vi0 ok sq_LA_99 I.1.1 C1 (by decide) (Nat.le_of_ble_eq_true rfl) dq_LA_law_900 ?_
  refine fx_aload_n 2 dq_LA_law_903 rfl rfl ?_
  refine fx_Vi0 ok sq_LA_102 M1.1 C2 (by decide) (Nat.le_of_ble_eq_true rfl) dq_LA_law_904 ?_
  exact fx_icmp_eq (tgt := 1086) dq_LA_law_907 (by decide) (fun _ => K _ _ _ I2) (fun ne => absurd rfl ne)
set_option maxHeartbeats 1000000 in
theorem la_seen (ok : fx_ok g) (hX : va_X b0 L xs (fx_s0 g) (fx_s0 g).heap) (hb : b0 < fx_b g) {w q z f b t : Nat} (ht : 9 * t + 9 ≤ L) (hL : L ≤ 4608) (I : LI h w q z f b) (K : ∀ h' f' b', LI h' w q z f' b' → fx_X g mq_LA_law 1086 [(0, .ref b0), (1, .ref w), (2, .ref q), (3, .ref z), (4, .int (nI (9 * t)))] [] h' Q mc ms) : fx_X g mq_LA_law 912 [(0, .ref b0), (1, .ref w), (2, .ref q), (3, .ref z), (4, .int (nI (9 * t)))] [] h Q (1 + mc) (6 + ms) := by
  refine fx_widen (Nat.le_add_left _ _) (Nat.le_add_left _ _) ?_
  obtain ⟨v, K1, K2, C1, M1, C2, f2, b2, I2⟩ := Q_seen ok I (xs (nI (9 * t) + 1).toNatClampNeg) (xs (nI (9 * t) + 2).toNatClampNeg)
  refine fx_aload_n 1 dq_LA_law_912 rfl rfl ?_
  refine fx_aload_n 0 dq_LA_law_913 rfl rfl ?_
  refine fx_iload 4 dq_LA_law_914 rfl ?_
  refine fx_iconst (v := 1) dq_LA_law_916 (by decide) ?_
  refine fx_iadd dq_LA_law_917 ?_
  refine fx_sld hX hb (sc_in ht hL (by decide)) dq_LA_law_918 ?_
  refine fx_aload_n 0 dq_LA_law_919 rfl rfl ?_
  refine fx_iload 4 dq_LA_law_920 rfl ?_
  refine fx_iconst (v := 2) dq_LA_law_922 (by decide) ?_
  refine fx_iadd dq_LA_law_923 ?_
  refine fx_sld hX hb (sc_in ht hL (by decide)) dq_LA_law_924 ?_
  refine fx_Vi2 ok sq_LA_103 I.1.1 C1 (by decide) (Nat.le_of_ble_eq_true rfl) dq_LA_law_925 ?_
  refine fx_aload_n 2 dq_LA_law_928 rfl rfl ?_
  refine fx_aload_n 0 dq_LA_law_929 rfl rfl ?_
  refine fx_iload 4 dq_LA_law_930 rfl ?_
  refine fx_iconst (v := 1) dq_LA_law_932 (by decide) ?_
  refine fx_iadd dq_LA_law_933 ?_
  refine fx_sld hX hb (sc_in ht hL (by decide)) dq_LA_law_934 ?_
  refine fx_aload_n 0 dq_LA_law_935 rfl rfl ?_
  refine fx_iload 4 dq_LA_law_936 rfl ?_
  refine fx_iconst (v := 2) dq_LA_law_938 (by decide) ?_
  refine fx_iadd dq_LA_law_939 ?_
  refine fx_sld hX hb (sc_in ht hL (by decide)) dq_LA_law_940 ?_
  refine fx_Vi2 ok sq_LA_107 M1.1 C2 (by decide) (Nat.le_of_ble_eq_true rfl) dq_LA_law_941 ?_
  exact fx_icmp_eq (tgt := 1086) dq_LA_law_944 (by decide) (fun _ => K _ _ _ I2) (fun ne => absurd rfl ne)
set_option maxHeartbeats 1000000 in
theorem la_wanted (ok : fx_ok g) (hX : va_X b0 L xs (fx_s0 g) (fx_s0 g).heap) (hb : b0 < fx_b g) {w q z f b t : Nat} (ht : 9 * t + 9 ≤ L) (hL : L ≤ 4608) (I : LI h w q z f b) (K : ∀ h' f' b', LI h' w q z f' b' → fx_X g mq_LA_law 1086 [(0, .ref b0), (1, .ref w), (2, .ref q), (3, .ref z), (4, .int (nI (9 * t)))] [] h' Q mc ms) : fx_X g mq_LA_law 949 [(0, .ref b0), (1, .ref w), (2, .ref q), (3, .ref z), (4, .int (nI (9 * t)))] [] h Q (1 + mc) (6 + ms) := by
  refine fx_widen (Nat.le_add_left _ _) (Nat.le_add_left _ _) ?_
  obtain ⟨v, K1, K2, C1, M1, C2, f2, b2, I2⟩ := Q_wanted ok I (xs (nI (9 * t) + 1).toNatClampNeg) (xs (nI (9 * t) + 2).toNatClampNeg)
  refine fx_aload_n 1 dq_LA_law_949 rfl rfl ?_
  refine fx_aload_n 0 dq_LA_law_950 rfl rfl ?_
  refine fx_iload 4 dq_LA_law_951 rfl ?_
  refine fx_iconst (v := 1) dq_LA_law_953 (by decide) ?_
  refine fx_iadd dq_LA_law_954 ?_
  refine fx_sld hX hb (sc_in ht hL (by decide)) dq_LA_law_955 ?_
  refine fx_aload_n 0 dq_LA_law_956 rfl rfl ?_
  refine fx_iload 4 dq_LA_law_957 rfl ?_
  refine fx_iconst (v := 2) dq_LA_law_959 (by decide) ?_
  refine fx_iadd dq_LA_law_960 ?_
  refine fx_sld hX hb (sc_in ht hL (by decide)) dq_LA_law_961 ?_
  refine fx_Vi2 ok sq_LA_108 I.1.1 C1 (by decide) (Nat.le_of_ble_eq_true rfl) dq_LA_law_962 ?_
  refine fx_aload_n 2 dq_LA_law_965 rfl rfl ?_
  refine fx_aload_n 0 dq_LA_law_966 rfl rfl ?_
  refine fx_iload 4 dq_LA_law_967 rfl ?_
  refine fx_iconst (v := 1) dq_LA_law_969 (by decide) ?_
  refine fx_iadd dq_LA_law_970 ?_
  refine fx_sld hX hb (sc_in ht hL (by decide)) dq_LA_law_971 ?_
  refine fx_aload_n 0 dq_LA_law_972 rfl rfl ?_
  refine fx_iload 4 dq_LA_law_973 rfl ?_
  refine fx_iconst (v := 2) dq_LA_law_975 (by decide) ?_
  refine fx_iadd dq_LA_law_976 ?_
  refine fx_sld hX hb (sc_in ht hL (by decide)) dq_LA_law_977 ?_
  refine fx_Vi2 ok sq_LA_111 M1.1 C2 (by decide) (Nat.le_of_ble_eq_true rfl) dq_LA_law_978 ?_
  exact fx_icmp_eq (tgt := 1086) dq_LA_law_981 (by decide) (fun _ => K _ _ _ I2) (fun ne => absurd rfl ne)
set_option maxHeartbeats 1000000 in
theorem la_count (ok : fx_ok g) (hX : va_X b0 L xs (fx_s0 g) (fx_s0 g).heap) (hb : b0 < fx_b g) {w q z f b t : Nat} (ht : 9 * t + 9 ≤ L) (hL : L ≤ 4608) (I : LI h w q z f b) (K : ∀ h' f' b', LI h' w q z f' b' → fx_X g mq_LA_law 1086 [(0, .ref b0), (1, .ref w), (2, .ref q), (3, .ref z), (4, .int (nI (9 * t)))] [] h' Q mc ms) : fx_X g mq_LA_law 986 [(0, .ref b0), (1, .ref w), (2, .ref q), (3, .ref z), (4, .int (nI (9 * t)))] [] h Q (1 + mc) (6 + ms) := by
  refine fx_widen (Nat.le_add_left _ _) (Nat.le_add_left _ _) ?_
  obtain ⟨v, K1, K2, C1, M1, C2, f2, b2, I2⟩ := Q_count ok I (xs (nI (9 * t) + 1).toNatClampNeg)
  refine fx_aload_n 1 dq_LA_law_986 rfl rfl ?_
  refine fx_aload_n 0 dq_LA_law_987 rfl rfl ?_
  refine fx_iload 4 dq_LA_law_988 rfl ?_
  refine fx_iconst (v := 1) dq_LA_law_990 (by decide) ?_
  refine fx_iadd dq_LA_law_991 ?_
  refine fx_sld hX hb (sc_in ht hL (by decide)) dq_LA_law_992 ?_
  refine fx_Vi1 ok sq_LA_112 I.1.1 C1 (by decide) (Nat.le_of_ble_eq_true rfl) dq_LA_law_993 ?_
  refine fx_aload_n 2 dq_LA_law_996 rfl rfl ?_
  refine fx_aload_n 0 dq_LA_law_997 rfl rfl ?_
  refine fx_iload 4 dq_LA_law_998 rfl ?_
  refine fx_iconst (v := 1) dq_LA_law_1000 (by decide) ?_
  refine fx_iadd dq_LA_law_1001 ?_
  refine fx_sld hX hb (sc_in ht hL (by decide)) dq_LA_law_1002 ?_
  refine fx_Vi1 ok sq_LA_115 M1.1 C2 (by decide) (Nat.le_of_ble_eq_true rfl) dq_LA_law_1003 ?_
  exact fx_icmp_eq (tgt := 1086) dq_LA_law_1006 (by decide) (fun _ => K _ _ _ I2) (fun ne => absurd rfl ne)
set_option maxHeartbeats 1000000 in
theorem la_missed (ok : fx_ok g) (hX : va_X b0 L xs (fx_s0 g) (fx_s0 g).heap) (hb : b0 < fx_b g) {w q z f b t : Nat} (ht : 9 * t + 9 ≤ L) (hL : L ≤ 4608) (I : LI h w q z f b) (K : ∀ h' f' b', LI h' w q z f' b' → fx_X g mq_LA_law 1086 [(0, .ref b0), (1, .ref w), (2, .ref q), (3, .ref z), (4, .int (nI (9 * t)))] [] h' Q mc ms) : fx_X g mq_LA_law 1011 [(0, .ref b0), (1, .ref w), (2, .ref q), (3, .ref z), (4, .int (nI (9 * t)))] [] h Q (1 + mc) (6 + ms) := by
  refine fx_widen (Nat.le_add_left _ _) (Nat.le_add_left _ _) ?_
  obtain ⟨v, K1, K2, C1, M1, C2, f2, b2, I2⟩ := Q_missed ok I (xs (nI (9 * t) + 1).toNatClampNeg) (xs (nI (9 * t) + 2).toNatClampNeg)
  refine fx_aload_n 1 dq_LA_law_1011 rfl rfl ?_
  refine fx_aload_n 0 dq_LA_law_1012 rfl rfl ?_
  refine fx_iload 4 dq_LA_law_1013 rfl ?_
  refine fx_iconst (v := 1) dq_LA_law_1015 (by decide) ?_
  refine fx_iadd dq_LA_law_1016 ?_
  refine fx_sld hX hb (sc_in ht hL (by decide)) dq_LA_law_1017 ?_
  refine fx_aload_n 0 dq_LA_law_1018 rfl rfl ?_
  refine fx_iload 4 dq_LA_law_1019 rfl ?_
  refine fx_iconst (v := 2) dq_LA_law_1021 (by decide) ?_
  refine fx_iadd dq_LA_law_1022 ?_
  refine fx_sld hX hb (sc_in ht hL (by decide)) dq_LA_law_1023 ?_
  refine fx_Vi2 ok sq_LA_116 I.1.1 C1 (by decide) (Nat.le_of_ble_eq_true rfl) dq_LA_law_1024 ?_
  refine fx_aload_n 2 dq_LA_law_1027 rfl rfl ?_
  refine fx_aload_n 0 dq_LA_law_1028 rfl rfl ?_
  refine fx_iload 4 dq_LA_law_1029 rfl ?_
  refine fx_iconst (v := 1) dq_LA_law_1031 (by decide) ?_
  refine fx_iadd dq_LA_law_1032 ?_
  refine fx_sld hX hb (sc_in ht hL (by decide)) dq_LA_law_1033 ?_
  refine fx_aload_n 0 dq_LA_law_1034 rfl rfl ?_
  refine fx_iload 4 dq_LA_law_1035 rfl ?_
  refine fx_iconst (v := 2) dq_LA_law_1037 (by decide) ?_
  refine fx_iadd dq_LA_law_1038 ?_
  refine fx_sld hX hb (sc_in ht hL (by decide)) dq_LA_law_1039 ?_
  refine fx_Vi2 ok sq_LA_119 M1.1 C2 (by decide) (Nat.le_of_ble_eq_true rfl) dq_LA_law_1040 ?_
  exact fx_icmp_eq (tgt := 1086) dq_LA_law_1043 (by decide) (fun _ => K _ _ _ I2) (fun ne => absurd rfl ne)
set_option maxHeartbeats 1000000 in
theorem la_plane (ok : fx_ok g) (hX : va_X b0 L xs (fx_s0 g) (fx_s0 g).heap) (hb : b0 < fx_b g) {w q z f b t : Nat} (ht : 9 * t + 9 ≤ L) (hL : L ≤ 4608) (I : LI h w q z f b) (K : ∀ h' f' b', LI h' w q z f' b' → fx_X g mq_LA_law 1086 [(0, .ref b0), (1, .ref w), (2, .ref q), (3, .ref z), (4, .int (nI (9 * t)))] [] h' Q mc ms) : fx_X g mq_LA_law 1048 [(0, .ref b0), (1, .ref w), (2, .ref q), (3, .ref z), (4, .int (nI (9 * t)))] [] h Q (1 + mc) (6 + ms) := by
  refine fx_widen (Nat.le_add_left _ _) (Nat.le_add_left _ _) ?_
  obtain ⟨v, K1, K2, C1, M1, C2, f2, b2, I2⟩ := Q_plane ok I (xs (nI (9 * t) + 1).toNatClampNeg)
  refine fx_aload_n 1 dq_LA_law_1048 rfl rfl ?_
  refine fx_aload_n 0 dq_LA_law_1049 rfl rfl ?_
  refine fx_iload 4 dq_LA_law_1050 rfl ?_
  refine fx_iconst (v := 1) dq_LA_law_1052 (by decide) ?_
  refine fx_iadd dq_LA_law_1053 ?_
  refine fx_sld hX hb (sc_in ht hL (by decide)) dq_LA_law_1054 ?_
  refine fx_Vi1 ok sq_LA_120 I.1.1 C1 (by decide) (Nat.le_of_ble_eq_true rfl) dq_LA_law_1055 ?_
  refine fx_aload_n 2 dq_LA_law_1058 rfl rfl ?_
  refine fx_aload_n 0 dq_LA_law_1059 rfl rfl ?_
  refine fx_iload 4 dq_LA_law_1060 rfl ?_
  refine fx_iconst (v := 1) dq_LA_law_1062 (by decide) ?_
  refine fx_iadd dq_LA_law_1063 ?_
  refine fx_sld hX hb (sc_in ht hL (by decide)) dq_LA_law_1064 ?_
  refine fx_Vi1 ok sq_LA_123 M1.1 C2 (by decide) (Nat.le_of_ble_eq_true rfl) dq_LA_law_1065 ?_
  exact fx_icmp_eq (tgt := 1086) dq_LA_law_1068 (by decide) (fun _ => K _ _ _ I2) (fun ne => absurd rfl ne)
set_option maxHeartbeats 1000000 in
theorem la_free (ok : fx_ok g) (hX : va_X b0 L xs (fx_s0 g) (fx_s0 g).heap) (hb : b0 < fx_b g) {w q z f b t : Nat} (ht : 9 * t + 9 ≤ L) (hL : L ≤ 4608) (I : LI h w q z f b) (K : ∀ h' f' b', LI h' w q z f' b' → fx_X g mq_LA_law 1086 [(0, .ref b0), (1, .ref w), (2, .ref q), (3, .ref z), (4, .int (nI (9 * t)))] [] h' Q mc ms) : fx_X g mq_LA_law 1073 [(0, .ref b0), (1, .ref w), (2, .ref q), (3, .ref z), (4, .int (nI (9 * t)))] [] h Q (1 + mc) (6 + ms) := by
  refine fx_widen (Nat.le_add_left _ _) (Nat.le_add_left _ _) ?_
  obtain ⟨v, K1, K2, C1, M1, C2, f2, b2, I2⟩ := Q_free ok I 
  refine fx_aload_n 1 dq_LA_law_1073 rfl rfl ?_
  refine fx_Vi0 ok sq_LA_124 I.1.1 C1 (by decide) (Nat.le_of_ble_eq_true rfl) dq_LA_law_1074 ?_
  refine fx_aload_n 2 dq_LA_law_1077 rfl rfl ?_
  refine fx_Vi0 ok sq_LA_127 M1.1 C2 (by decide) (Nat.le_of_ble_eq_true rfl) dq_LA_law_1078 ?_
  exact fx_icmp_eq (tgt := 1086) dq_LA_law_1081 (by decide) (fun _ => K _ _ _ I2) (fun ne => absurd rfl ne)
/-- one call -/
theorem la_step (ok : fx_ok g) (hX : va_X b0 L xs (fx_s0 g) (fx_s0 g).heap) (hb : b0 < fx_b g) {w q z f b t : Nat} (ht : 9 * t + 9 ≤ L) (hL : L ≤ 4608) (I : LI h w q z f b) (K : ∀ h' f' b', LI h' w q z f' b' → fx_X g mq_LA_law 1086 [(0, .ref b0), (1, .ref w), (2, .ref q), (3, .ref z), (4, .int (nI (9 * t)))] [] h' Q mc ms) : fx_X g mq_LA_law 33 [(0, .ref b0), (1, .ref w), (2, .ref q), (3, .ref z), (4, .int (nI (9 * t)))] [] h Q (1 + mc) (6 + ms) := by
  refine fx_aload_n 0 dq_LA_law_33 rfl rfl ?_
  refine fx_iload 4 dq_LA_law_34 rfl ?_
  refine fx_sld hX hb (sc_0 ht hL) dq_LA_law_36 ?_
  refine fx_bipush (v := 31) dq_LA_law_37 (by decide) ?_
  refine fx_iand dq_LA_law_39 ?_
  generalize xs (nI (9 * t)).toNatClampNeg &&& 31 = u
  by_cases e0 : u = 0
  · rw [e0]
    exact fx_tsIn (tgt := 124) (off := 84) dq_LA_law_40 (by decide) (by decide) (by decide +kernel) (by decide) (la_surface ok hX hb ht hL I K)
  by_cases e1 : u = 1
  · rw [e1]
    exact fx_tsIn (tgt := 204) (off := 164) dq_LA_law_40 (by decide) (by decide) (by decide +kernel) (by decide) (la_destroy ok hX hb ht hL I K)
  by_cases e2 : u = 2
  · rw [e2]
    exact fx_tsIn (tgt := 240) (off := 200) dq_LA_law_40 (by decide) (by decide) (by decide +kernel) (by decide) (la_place ok hX hb ht hL I K)
  by_cases e3 : u = 3
  · rw [e3]
    exact fx_tsIn (tgt := 354) (off := 314) dq_LA_law_40 (by decide) (by decide) (by decide +kernel) (by decide) (la_clip ok hX hb ht hL I K)
  by_cases e4 : u = 4
  · rw [e4]
    exact fx_tsIn (tgt := 438) (off := 398) dq_LA_law_40 (by decide) (by decide) (by decide +kernel) (by decide) (la_put ok hX hb ht hL I K)
  by_cases e5 : u = 5
  · rw [e5]
    exact fx_tsIn (tgt := 510) (off := 470) dq_LA_law_40 (by decide) (by decide) (by decide +kernel) (by decide) (la_fill ok hX hb ht hL I K)
  by_cases e6 : u = 6
  · rw [e6]
    exact fx_tsIn (tgt := 628) (off := 588) dq_LA_law_40 (by decide) (by decide) (by decide +kernel) (by decide) (la_copy ok hX hb ht hL I K)
  by_cases e7 : u = 7
  · rw [e7]
    exact fx_tsIn (tgt := 774) (off := 734) dq_LA_law_40 (by decide) (by decide) (by decide +kernel) (by decide) (la_commit ok hX hb ht hL I K)
  by_cases e8 : u = 8
  · rw [e8]
    exact fx_tsIn (tgt := 830) (off := 790) dq_LA_law_40 (by decide) (by decide) (by decide +kernel) (by decide) (la_draw ok hX hb ht hL I K)
  by_cases e9 : u = 9
  · rw [e9]
    exact fx_tsIn (tgt := 886) (off := 846) dq_LA_law_40 (by decide) (by decide) (by decide +kernel) (by decide) (la_scan ok hX hb ht hL I K)
  by_cases e10 : u = 10
  · rw [e10]
    exact fx_tsIn (tgt := 899) (off := 859) dq_LA_law_40 (by decide) (by decide) (by decide +kernel) (by decide) (la_state ok hX hb ht hL I K)
  by_cases e11 : u = 11
  · rw [e11]
    exact fx_tsIn (tgt := 912) (off := 872) dq_LA_law_40 (by decide) (by decide) (by decide +kernel) (by decide) (la_seen ok hX hb ht hL I K)
  by_cases e12 : u = 12
  · rw [e12]
    exact fx_tsIn (tgt := 949) (off := 909) dq_LA_law_40 (by decide) (by decide) (by decide +kernel) (by decide) (la_wanted ok hX hb ht hL I K)
  by_cases e13 : u = 13
  · rw [e13]
    exact fx_tsIn (tgt := 986) (off := 946) dq_LA_law_40 (by decide) (by decide) (by decide +kernel) (by decide) (la_count ok hX hb ht hL I K)
  by_cases e14 : u = 14
  · rw [e14]
    exact fx_tsIn (tgt := 1011) (off := 971) dq_LA_law_40 (by decide) (by decide) (by decide +kernel) (by decide) (la_missed ok hX hb ht hL I K)
  by_cases e15 : u = 15
  · rw [e15]
    exact fx_tsIn (tgt := 1048) (off := 1008) dq_LA_law_40 (by decide) (by decide) (by decide +kernel) (by decide) (la_plane ok hX hb ht hL I K)
  by_cases e16 : u = 16
  · rw [e16]
    exact fx_tsIn (tgt := 1073) (off := 1033) dq_LA_law_40 (by decide) (by decide) (by decide +kernel) (by decide) (la_free ok hX hb ht hL I K)
  have d0 : ¬ u.toInt = 0 := fun y => e0 (iz_eq.mpr y)
  have d1 : ¬ u.toInt = 1 := fun y => e1 (iz_eq.mpr y)
  have d2 : ¬ u.toInt = 2 := fun y => e2 (iz_eq.mpr y)
  have d3 : ¬ u.toInt = 3 := fun y => e3 (iz_eq.mpr y)
  have d4 : ¬ u.toInt = 4 := fun y => e4 (iz_eq.mpr y)
  have d5 : ¬ u.toInt = 5 := fun y => e5 (iz_eq.mpr y)
  have d6 : ¬ u.toInt = 6 := fun y => e6 (iz_eq.mpr y)
  have d7 : ¬ u.toInt = 7 := fun y => e7 (iz_eq.mpr y)
  have d8 : ¬ u.toInt = 8 := fun y => e8 (iz_eq.mpr y)
  have d9 : ¬ u.toInt = 9 := fun y => e9 (iz_eq.mpr y)
  have d10 : ¬ u.toInt = 10 := fun y => e10 (iz_eq.mpr y)
  have d11 : ¬ u.toInt = 11 := fun y => e11 (iz_eq.mpr y)
  have d12 : ¬ u.toInt = 12 := fun y => e12 (iz_eq.mpr y)
  have d13 : ¬ u.toInt = 13 := fun y => e13 (iz_eq.mpr y)
  have d14 : ¬ u.toInt = 14 := fun y => e14 (iz_eq.mpr y)
  have d15 : ¬ u.toInt = 15 := fun y => e15 (iz_eq.mpr y)
  have d16 : ¬ u.toInt = 16 := fun y => e16 (iz_eq.mpr y)
  exact fx_tsOut (tgt := 1086) dq_LA_law_40 (by omega) (by decide) (fx_widen (Nat.le_add_left _ _) (Nat.le_add_left _ _) (K _ _ _ I))
/-- the law's answer is true -/
def lwT : fx_O → fx_H → Prop := fun o _ => o = .inl (some 1)
theorem la_loop (ok : fx_ok g) (hX : va_X b0 L xs (fx_s0 g) (fx_s0 g).heap) (hb : b0 < fx_b g) (hL : L ≤ 4608) {w q z : Nat} (n : Nat) : ∀ (t : Nat) (h : fx_H) (f b : Nat), t + n = L / 9 → LI h w q z f b → fx_X g mq_LA_law 23 [(0, .ref b0), (1, .ref w), (2, .ref q), (3, .ref z), (4, .int (nI (9 * t)))] [] h lwT n (6 * n) := by
  have eL : (Int32.ofNat L).toInt = (L : Int) := nI_toInt (by omega)
  have e9 : (9 : Int32).toInt = 9 := rfl
  have eS : (Int32.ofNat L - 9).toInt = (L : Int) - 9 := by rw [iz_sub (by rw [eL, e9]; omega), eL, e9]
  induction n with
  | zero =>
    intro t h f b hn I
    have et : (nI (9 * t)).toInt = ((9 * t : Nat) : Int) := nI_toInt (by omega)
    refine fx_iload 4 dq_LA_law_23 rfl ?_
    refine fx_aload_n 0 dq_LA_law_25 rfl rfl ?_
    refine fx_slen hX hb dq_LA_law_26 ?_
    refine fx_bipush (v := 9) dq_LA_law_27 (by decide) ?_
    refine fx_isub dq_LA_law_29 ?_
    refine fx_icmp_gt (tgt := 1092) dq_LA_law_30 (by decide) (fun _ => ?_) (fun ne => ?_)
    · refine fx_iconst (v := 1) dq_LA_law_1092 (by decide) ?_
      exact fx_zreturn rfl (Or.inr rfl) dq_LA_law_1093 rfl
    · exact absurd (by rw [Int32.lt_iff_toInt_lt, eS, et]; omega) ne
  | succ n ih =>
    intro t h f b hn I
    have et : (nI (9 * t)).toInt = ((9 * t : Nat) : Int) := nI_toInt (by omega)
    have ht : 9 * t + 9 ≤ L := by omega
    have e1 : n + 1 = 1 + n := by omega
    have e2 : 6 * (n + 1) = 6 + 6 * n := by omega
    have e3 : nI (9 * t) + Int32.ofInt 9 = nI (9 * (t + 1)) := by
      have c9 : (Int32.ofInt 9).toInt = 9 := rfl
      rw [iz_eq, iz_add (by rw [et, c9]; omega), et, c9, nI_toInt (by omega)]
      omega
    refine fx_iload 4 dq_LA_law_23 rfl ?_
    refine fx_aload_n 0 dq_LA_law_25 rfl rfl ?_
    refine fx_slen hX hb dq_LA_law_26 ?_
    refine fx_bipush (v := 9) dq_LA_law_27 (by decide) ?_
    refine fx_isub dq_LA_law_29 ?_
    refine fx_icmp_gt (tgt := 1092) dq_LA_law_30 (by decide) (fun y => ?_) (fun _ => ?_)
    · exact absurd y (by rw [Int32.lt_iff_toInt_lt, eS, et]; omega)
    · rw [e2, e1]
      refine la_step ok hX hb ht hL I (fun h' f' b' I' => ?_)
      refine fx_iinc 4 dq_LA_law_1086 rfl e3 (by decide) rfl ?_
      refine fx_goto (tgt := 23) dq_LA_law_1089 (by decide) ?_
      exact fx_sub [1, 2, 3, 4, 0] rfl (ih (t + 1) h' f' b' (by omega) I')
theorem la_law (ok : fx_ok g) (hX : va_X b0 L xs (fx_s0 g) (fx_s0 g).heap) (hb : b0 < fx_b g) (hL : L ≤ 4608) (h : fx_H) : fx_X g mq_LA_law 0 [(0, .ref b0)] [] h lwT 601024 7293034 := by
  obtain ⟨w, hw⟩ : ∃ w, fx_n h = w := ⟨_, rfl⟩
  obtain ⟨k, ek, n0, s0, n1, n2, s2, n3, F, M, hj⟩ := A_first hw
  refine fx_widen (mc := (190 + ((37 + (L / 9 + 1)) + 1)) + 1) (ms := (4741 + ((4106 + (6 * (L / 9) + 1)) + 52)) + 5) (by omega) (by omega) ?_
  refine fx_new ok (ci := 0) (N := 5) rfl lq_FS tq_FS_ok nw_FS lk_LA_8 ko_FS kn_FS dq_LA_law_0 ?_
  rw [hw]
  refine fx_dup dq_LA_law_3 rfl ?_
  refine fx_Ia0 ok sq_LA_50 (c_FS_init ok _ w n0 s0) (by decide) (Nat.le_of_ble_eq_true rfl) dq_LA_law_4 ?_
  refine fx_astore_n dq_LA_law_7 rfl (by decide) rfl ?_
  refine fx_new ok (ci := 10) (N := 52) rfl lq_MO tq_MO_ok nw_MO lk_LA_51 ko_MO kn_MO dq_LA_law_8 ?_
  rw [n1]
  refine fx_dup dq_LA_law_11 rfl ?_
  refine fx_Ia0 ok sq_LA_53 (c_MO_init ok _ (w + 191) n2 s2) (by decide) (Nat.le_of_ble_eq_true rfl) dq_LA_law_12 ?_
  rw [← ek]
  refine fx_astore_n dq_LA_law_15 rfl (by decide) rfl ?_
  refine fx_iconst (v := 1) dq_LA_law_16 (by decide) ?_
  refine fx_newa ok (atype := .long) (ak := 2) (N := 1) rfl (by decide) (by decide) (by decide) (by intro C hC; cases hC) ka_long (by decide) (by decide) (by decide) dq_LA_law_17 ?_
  rw [n3]
  refine fx_astore_n dq_LA_law_19 rfl (by decide) rfl ?_
  refine fx_iconst (v := 0) dq_LA_law_20 (by decide) ?_
  refine fx_istore dq_LA_law_21 (by decide) rfl ?_
  have I : LI (fx_nw k (.inr (2, 1))) w (w + 191) (w + 229) (w + 143) (w + 154) := by
    have kk : kp 0 (w + 229) k (fx_nw k (.inr (2, 1))) := fun a _ h2 => ⟨by rw [fx_s_nw, if_neg (by omega)], fun j => by rw [fx_r_nw, if_neg (by omega)]⟩
    have ki : ∀ a j, a < w + 229 → fx_i (fx_nw k (.inr (2, 1))) a j = fx_i k a j := fun a j ha => by rw [fx_i_nw, if_neg (by omega)]
    exact ⟨isF_kp (fun a h1 h2 => kk a (by omega) (by omega)) F, isM_kp (fun a h1 h2 => kk a (by omega) (by omega)) M, J_ag ⟨fun a _ _ _ _ j => ki _ j (by omega), fun o _ _ _ _ j => ki _ j (by omega), fun j _ _ => ki _ j (by omega)⟩ hj, by rw [fx_s_nw, if_pos n3.symm], by omega⟩
  have e0 : nI (9 * 0) = 0 := rfl
  rw [← e0]
  exact fx_sub [4, 3, 2, 1, 0] rfl (la_loop ok hX hb hL (L / 9) 0 _ _ _ (by omega) I)
end LAW
