set_option maxRecDepth 100000 in
set_option maxHeartbeats 4000000 in
theorem lc_set {x : iC} {g : Geo} {b L i : Nat} {xs : Nat → Int32} {l : Launch} {M : Nat → Nat → Int32} {P : Nat → Nat} {B N K s at_ ln : Nat} {tx : Nat → Nat} (hx : x.1.2.1 = l) (h : Lk x g b L xs) (hL : L < 2 ^ 31) (hi : i + 5 < L) (hB : B + 9999 < 2 ^ 30) (hW : WI M P B N K s at_ tx ln) (kk : ∀ M' P', Wst M' P' (B + 9999) → Y x 857 [(3, .int (nI i)), (2, .ref (g.1 158)), (1, .ref (g.1 144)), (0, .ref b)] [] (wW g.1 (enc g M' P')) 168 8061) : Y x 156 [(3, .int (nI i)), (2, .ref (g.1 158)), (1, .ref (g.1 144)), (0, .ref b)] [] (wW g.1 (enc g M P)) 168 8061 := by
  obtain ⟨hP, hNb, hp, ⟨hs, hs4, hm, hat, hat4⟩, hH, hT, hU⟩ := id hW
  have hI := hp.1.1
  refine y_aload_n h.1 2 dL_law_156 rfl rfl ?_
  refine y_aload_n h.1 3 dL_law_157 rfl rfl ?_
  refine y_iload_n h.1 0 dL_law_158 rfl rfl ?_
  refine y_iconst h.1 (nI 1) dL_law_159 (by decide) ?_
  refine y_iadd_n h.1 dL_law_160 ?_
  refine y_sld h (by omega) hL dL_law_161 ?_
  refine y_aload_n h.1 3 dL_law_162 rfl rfl ?_
  refine y_iload_n h.1 0 dL_law_163 rfl rfl ?_
  refine y_iconst h.1 (nI 2) dL_law_164 (by decide) ?_
  refine y_iadd_n h.1 dL_law_165 ?_
  refine y_sld h (by omega) hL dL_law_166 ?_
  refine y_callV h (As := [.int (xs (i + 1)), .int (xs (i + 2))]) 2 hx (c_X5_set hP hI hs hs4) gL_X5_set rfl ⟨rfl, rfl⟩ (by decide +kernel) rfl (by decide) (by decide) E_144 rfl rfl (Nat.le_of_ble_eq_true rfl) (Nat.le_of_ble_eq_true rfl) (Nat.le_of_ble_eq_true rfl) dL_law_167 (fun r M1 P1 hc => ?_)
  have hk : ∀ k, 157 < k → M1 k = M k := fun k hk => hc.1 k (by have := hP.1 1 (by decide); omega) (by omega) (by omega) (by omega)
  have hI1 : InvX eM (M1 159) N K B := by rw [hk 159 (by decide)]; exact hp.1.2.1
  have hZ1 : Zn (M1 159) N := by rw [hk 159 (by decide)]; exact hp.1.2.2.1
  have hm1 : M1 158 5 = nI s := by rw [hk 158 (by decide)]; exact hm
  have hat1 : M1 158 6 = nI at_ := by rw [hk 158 (by decide)]; exact hat
  have hU1 : TxN M1 tx ln := TxN_cg (by rw [hk 158 (by decide)]) (hk 163 (by decide)) hU
  refine y_aload_n h.1 1 dL_law_170 rfl rfl ?_
  refine y_aload_n h.1 3 dL_law_171 rfl rfl ?_
  refine y_iload_n h.1 0 dL_law_172 rfl rfl ?_
  refine y_iconst h.1 (nI 1) dL_law_173 (by decide) ?_
  refine y_iadd_n h.1 dL_law_174 ?_
  refine y_sld h (by omega) hL dL_law_175 ?_
  refine y_aload_n h.1 3 dL_law_176 rfl rfl ?_
  refine y_iload_n h.1 0 dL_law_177 rfl rfl ?_
  refine y_iconst h.1 (nI 2) dL_law_178 (by decide) ?_
  refine y_iadd_n h.1 dL_law_179 ?_
  refine y_sld h (by omega) hL dL_law_180 ?_
  refine y_callV h (As := [.int (xs (i + 1)), .int (xs (i + 2))]) 2 hx (c_X6_set hm1 hs4 hat1 hat4) gL_X6_set rfl ⟨rfl, rfl⟩ (by decide +kernel) rfl (by decide) (by decide) E_158 rfl rfl (Nat.le_of_ble_eq_true rfl) (Nat.le_of_ble_eq_true rfl) (Nat.le_of_ble_eq_true rfl) dL_law_181 (fun r' M2 P2 hm2 => ?_)
  obtain ⟨e, hw⟩ := S_set hW hB hc hm2
  exact y_icmp_eq h.1 857 dL_law_184 (by decide) (fun _ => kk M2 P2 hw) (fun c => absurd e c)

set_option maxRecDepth 100000 in
set_option maxHeartbeats 4000000 in
theorem lc_block {x : iC} {g : Geo} {b L i : Nat} {xs : Nat → Int32} {l : Launch} {M : Nat → Nat → Int32} {P : Nat → Nat} {B N K s at_ ln : Nat} {tx : Nat → Nat} (hx : x.1.2.1 = l) (h : Lk x g b L xs) (hL : L < 2 ^ 31) (hi : i + 5 < L) (hB : B + 9999 < 2 ^ 30) (hW : WI M P B N K s at_ tx ln) (kk : ∀ M' P', Wst M' P' (B + 9999) → Y x 857 [(3, .int (nI i)), (2, .ref (g.1 158)), (1, .ref (g.1 144)), (0, .ref b)] [] (wW g.1 (enc g M' P')) 168 8061) : Y x 189 [(3, .int (nI i)), (2, .ref (g.1 158)), (1, .ref (g.1 144)), (0, .ref b)] [] (wW g.1 (enc g M P)) 168 8061 := by
  obtain ⟨hP, hNb, hp, ⟨hs, hs4, hm, hat, hat4⟩, hH, hT, hU⟩ := id hW
  have hI := hp.1.1
  refine y_aload_n h.1 2 dL_law_189 rfl rfl ?_
  refine y_aload_n h.1 3 dL_law_190 rfl rfl ?_
  refine y_iload_n h.1 0 dL_law_191 rfl rfl ?_
  refine y_iconst h.1 (nI 1) dL_law_192 (by decide) ?_
  refine y_iadd_n h.1 dL_law_193 ?_
  refine y_sld h (by omega) hL dL_law_194 ?_
  refine y_aload_n h.1 3 dL_law_195 rfl rfl ?_
  refine y_iload_n h.1 0 dL_law_196 rfl rfl ?_
  refine y_iconst h.1 (nI 2) dL_law_197 (by decide) ?_
  refine y_iadd_n h.1 dL_law_198 ?_
  refine y_sld h (by omega) hL dL_law_199 ?_
  refine y_callV h (As := [.int (xs (i + 1)), .int (xs (i + 2))]) 2 hx (c_X5_block hP hI hs hs4) gL_X5_block rfl ⟨rfl, rfl⟩ (by decide +kernel) rfl (by decide) (by decide) E_144 rfl rfl (Nat.le_of_ble_eq_true rfl) (Nat.le_of_ble_eq_true rfl) (Nat.le_of_ble_eq_true rfl) dL_law_200 (fun r M1 P1 hc => ?_)
  have hk : ∀ k, 157 < k → M1 k = M k := fun k hk => hc.1 k (by have := hP.1 1 (by decide); omega) (by omega) (by omega) (by omega)
  have hI1 : InvX eM (M1 159) N K B := by rw [hk 159 (by decide)]; exact hp.1.2.1
  have hZ1 : Zn (M1 159) N := by rw [hk 159 (by decide)]; exact hp.1.2.2.1
  have hm1 : M1 158 5 = nI s := by rw [hk 158 (by decide)]; exact hm
  have hat1 : M1 158 6 = nI at_ := by rw [hk 158 (by decide)]; exact hat
  have hU1 : TxN M1 tx ln := TxN_cg (by rw [hk 158 (by decide)]) (hk 163 (by decide)) hU
  refine y_aload_n h.1 1 dL_law_203 rfl rfl ?_
  refine y_aload_n h.1 3 dL_law_204 rfl rfl ?_
  refine y_iload_n h.1 0 dL_law_205 rfl rfl ?_
  refine y_iconst h.1 (nI 1) dL_law_206 (by decide) ?_
  refine y_iadd_n h.1 dL_law_207 ?_
  refine y_sld h (by omega) hL dL_law_208 ?_
  refine y_aload_n h.1 3 dL_law_209 rfl rfl ?_
  refine y_iload_n h.1 0 dL_law_210 rfl rfl ?_
  refine y_iconst h.1 (nI 2) dL_law_211 (by decide) ?_
  refine y_iadd_n h.1 dL_law_212 ?_
  refine y_sld h (by omega) hL dL_law_213 ?_
  refine y_callV h (As := [.int (xs (i + 1)), .int (xs (i + 2))]) 2 hx (c_X6_block hI1 hm1 hs4 hat1 hat4) gL_X6_block rfl ⟨rfl, rfl⟩ (by decide +kernel) rfl (by decide) (by decide) E_158 rfl rfl (Nat.le_of_ble_eq_true rfl) (Nat.le_of_ble_eq_true rfl) (Nat.le_of_ble_eq_true rfl) dL_law_214 (fun r' M2 P2 hm2 => ?_)
  obtain ⟨e, hw⟩ := S_block hW hB hc hm2
  exact y_icmp_eq h.1 857 dL_law_217 (by decide) (fun _ => kk M2 P2 hw) (fun c => absurd e c)

set_option maxRecDepth 100000 in
set_option maxHeartbeats 4000000 in
theorem lc_net {x : iC} {g : Geo} {b L i : Nat} {xs : Nat → Int32} {l : Launch} {M : Nat → Nat → Int32} {P : Nat → Nat} {B N K s at_ ln : Nat} {tx : Nat → Nat} (hx : x.1.2.1 = l) (h : Lk x g b L xs) (hL : L < 2 ^ 31) (hi : i + 5 < L) (hB : B + 9999 < 2 ^ 30) (hW : WI M P B N K s at_ tx ln) (kk : ∀ M' P', Wst M' P' (B + 9999) → Y x 857 [(3, .int (nI i)), (2, .ref (g.1 158)), (1, .ref (g.1 144)), (0, .ref b)] [] (wW g.1 (enc g M' P')) 168 8061) : Y x 222 [(3, .int (nI i)), (2, .ref (g.1 158)), (1, .ref (g.1 144)), (0, .ref b)] [] (wW g.1 (enc g M P)) 168 8061 := by
  obtain ⟨hP, hNb, hp, ⟨hs, hs4, hm, hat, hat4⟩, hH, hT, hU⟩ := id hW
  have hI := hp.1.1
  refine y_aload_n h.1 2 dL_law_222 rfl rfl ?_
  refine y_aload_n h.1 3 dL_law_223 rfl rfl ?_
  refine y_iload_n h.1 0 dL_law_224 rfl rfl ?_
  refine y_iconst h.1 (nI 1) dL_law_225 (by decide) ?_
  refine y_iadd_n h.1 dL_law_226 ?_
  refine y_sld h (by omega) hL dL_law_227 ?_
  refine y_aload_n h.1 3 dL_law_228 rfl rfl ?_
  refine y_iload_n h.1 0 dL_law_229 rfl rfl ?_
  refine y_iconst h.1 (nI 2) dL_law_230 (by decide) ?_
  refine y_iadd_n h.1 dL_law_231 ?_
  refine y_sld h (by omega) hL dL_law_232 ?_
  refine y_aload_n h.1 3 dL_law_233 rfl rfl ?_
  refine y_iload_n h.1 0 dL_law_234 rfl rfl ?_
  refine y_iconst h.1 (nI 3) dL_law_235 (by decide) ?_
  refine y_iadd_n h.1 dL_law_236 ?_
  refine y_sld h (by omega) hL dL_law_237 ?_
  refine y_aload_n h.1 3 dL_law_238 rfl rfl ?_
  refine y_iload_n h.1 0 dL_law_239 rfl rfl ?_
  refine y_iconst h.1 (nI 4) dL_law_240 (by decide) ?_
  refine y_iadd_n h.1 dL_law_241 ?_
  refine y_sld h (by omega) hL dL_law_242 ?_
  refine y_aload_n h.1 3 dL_law_243 rfl rfl ?_
  refine y_iload_n h.1 0 dL_law_244 rfl rfl ?_
  refine y_iconst h.1 (nI 5) dL_law_245 (by decide) ?_
  refine y_iadd_n h.1 dL_law_246 ?_
  refine y_sld h (by omega) hL dL_law_247 ?_
  refine y_callV h (As := [.int (xs (i + 1)), .int (xs (i + 2)), .int (xs (i + 3)), .int (xs (i + 4)), .int (xs (i + 5))]) 5 hx (c_X5_net hP hI hs hs4) gL_X5_net rfl ⟨rfl, rfl⟩ (by decide +kernel) rfl (by decide) (by decide) E_144 rfl rfl (Nat.le_of_ble_eq_true rfl) (Nat.le_of_ble_eq_true rfl) (Nat.le_of_ble_eq_true rfl) dL_law_248 (fun r M1 P1 hc => ?_)
  have hk : ∀ k, 157 < k → M1 k = M k := fun k hk => hc.1 k (by have := hP.1 1 (by decide); omega) (by omega) (by omega) (by omega)
  have hI1 : InvX eM (M1 159) N K B := by rw [hk 159 (by decide)]; exact hp.1.2.1
  have hZ1 : Zn (M1 159) N := by rw [hk 159 (by decide)]; exact hp.1.2.2.1
  have hm1 : M1 158 5 = nI s := by rw [hk 158 (by decide)]; exact hm
  have hat1 : M1 158 6 = nI at_ := by rw [hk 158 (by decide)]; exact hat
  have hU1 : TxN M1 tx ln := TxN_cg (by rw [hk 158 (by decide)]) (hk 163 (by decide)) hU
  refine y_aload_n h.1 1 dL_law_251 rfl rfl ?_
  refine y_aload_n h.1 3 dL_law_252 rfl rfl ?_
  refine y_iload_n h.1 0 dL_law_253 rfl rfl ?_
  refine y_iconst h.1 (nI 1) dL_law_254 (by decide) ?_
  refine y_iadd_n h.1 dL_law_255 ?_
  refine y_sld h (by omega) hL dL_law_256 ?_
  refine y_aload_n h.1 3 dL_law_257 rfl rfl ?_
  refine y_iload_n h.1 0 dL_law_258 rfl rfl ?_
  refine y_iconst h.1 (nI 2) dL_law_259 (by decide) ?_
  refine y_iadd_n h.1 dL_law_260 ?_
  refine y_sld h (by omega) hL dL_law_261 ?_
  refine y_aload_n h.1 3 dL_law_262 rfl rfl ?_
  refine y_iload_n h.1 0 dL_law_263 rfl rfl ?_
  refine y_iconst h.1 (nI 3) dL_law_264 (by decide) ?_
  refine y_iadd_n h.1 dL_law_265 ?_
  refine y_sld h (by omega) hL dL_law_266 ?_
  refine y_aload_n h.1 3 dL_law_267 rfl rfl ?_
  refine y_iload_n h.1 0 dL_law_268 rfl rfl ?_
  refine y_iconst h.1 (nI 4) dL_law_269 (by decide) ?_
  refine y_iadd_n h.1 dL_law_270 ?_
  refine y_sld h (by omega) hL dL_law_271 ?_
  refine y_aload_n h.1 3 dL_law_272 rfl rfl ?_
  refine y_iload_n h.1 0 dL_law_273 rfl rfl ?_
  refine y_iconst h.1 (nI 5) dL_law_274 (by decide) ?_
  refine y_iadd_n h.1 dL_law_275 ?_
  refine y_sld h (by omega) hL dL_law_276 ?_
  refine y_callV h (As := [.int (xs (i + 1)), .int (xs (i + 2)), .int (xs (i + 3)), .int (xs (i + 4)), .int (xs (i + 5))]) 5 hx (c_X6_net hI1 hZ1 hm1 hs4 hat1 hat4) gL_X6_net rfl ⟨rfl, rfl⟩ (by decide +kernel) rfl (by decide) (by decide) E_158 rfl rfl (Nat.le_of_ble_eq_true rfl) (Nat.le_of_ble_eq_true rfl) (Nat.le_of_ble_eq_true rfl) dL_law_277 (fun r' M2 P2 hm2 => ?_)
  obtain ⟨e, hw⟩ := S_net hW hB hc hm2
  exact y_icmp_eq h.1 857 dL_law_280 (by decide) (fun _ => kk M2 P2 hw) (fun c => absurd e c)

set_option maxRecDepth 100000 in
set_option maxHeartbeats 4000000 in
theorem lc_give {x : iC} {g : Geo} {b L i : Nat} {xs : Nat → Int32} {l : Launch} {M : Nat → Nat → Int32} {P : Nat → Nat} {B N K s at_ ln : Nat} {tx : Nat → Nat} (hx : x.1.2.1 = l) (h : Lk x g b L xs) (hL : L < 2 ^ 31) (hi : i + 5 < L) (hB : B + 9999 < 2 ^ 30) (hW : WI M P B N K s at_ tx ln) (kk : ∀ M' P', Wst M' P' (B + 9999) → Y x 857 [(3, .int (nI i)), (2, .ref (g.1 158)), (1, .ref (g.1 144)), (0, .ref b)] [] (wW g.1 (enc g M' P')) 168 8061) : Y x 285 [(3, .int (nI i)), (2, .ref (g.1 158)), (1, .ref (g.1 144)), (0, .ref b)] [] (wW g.1 (enc g M P)) 168 8061 := by
  obtain ⟨hP, hNb, hp, ⟨hs, hs4, hm, hat, hat4⟩, hH, hT, hU⟩ := id hW
  have hI := hp.1.1
  refine y_aload_n h.1 2 dL_law_285 rfl rfl ?_
  refine y_aload_n h.1 3 dL_law_286 rfl rfl ?_
  refine y_iload_n h.1 0 dL_law_287 rfl rfl ?_
  refine y_iconst h.1 (nI 1) dL_law_288 (by decide) ?_
  refine y_iadd_n h.1 dL_law_289 ?_
  refine y_sld h (by omega) hL dL_law_290 ?_
  refine y_aload_n h.1 3 dL_law_291 rfl rfl ?_
  refine y_iload_n h.1 0 dL_law_292 rfl rfl ?_
  refine y_iconst h.1 (nI 2) dL_law_293 (by decide) ?_
  refine y_iadd_n h.1 dL_law_294 ?_
  refine y_sld h (by omega) hL dL_law_295 ?_
  refine y_callV h (As := [.int (xs (i + 1)), .int (xs (i + 2))]) 2 hx (c_X5_give hP hI hs hs4) gL_X5_give rfl ⟨rfl, rfl⟩ (by decide +kernel) rfl (by decide) (by decide) E_144 rfl rfl (Nat.le_of_ble_eq_true rfl) (Nat.le_of_ble_eq_true rfl) (Nat.le_of_ble_eq_true rfl) dL_law_296 (fun r M1 P1 hc => ?_)
  have hk : ∀ k, 157 < k → M1 k = M k := fun k hk => hc.1 k (by have := hP.1 1 (by decide); omega) (by omega) (by omega) (by omega)
  have hI1 : InvX eM (M1 159) N K B := by rw [hk 159 (by decide)]; exact hp.1.2.1
  have hZ1 : Zn (M1 159) N := by rw [hk 159 (by decide)]; exact hp.1.2.2.1
  have hm1 : M1 158 5 = nI s := by rw [hk 158 (by decide)]; exact hm
  have hat1 : M1 158 6 = nI at_ := by rw [hk 158 (by decide)]; exact hat
  have hU1 : TxN M1 tx ln := TxN_cg (by rw [hk 158 (by decide)]) (hk 163 (by decide)) hU
  refine y_aload_n h.1 1 dL_law_299 rfl rfl ?_
  refine y_aload_n h.1 3 dL_law_300 rfl rfl ?_
  refine y_iload_n h.1 0 dL_law_301 rfl rfl ?_
  refine y_iconst h.1 (nI 1) dL_law_302 (by decide) ?_
  refine y_iadd_n h.1 dL_law_303 ?_
  refine y_sld h (by omega) hL dL_law_304 ?_
  refine y_aload_n h.1 3 dL_law_305 rfl rfl ?_
  refine y_iload_n h.1 0 dL_law_306 rfl rfl ?_
  refine y_iconst h.1 (nI 2) dL_law_307 (by decide) ?_
  refine y_iadd_n h.1 dL_law_308 ?_
  refine y_sld h (by omega) hL dL_law_309 ?_
  refine y_callV h (As := [.int (xs (i + 1)), .int (xs (i + 2))]) 2 hx (c_X6_give hI1 hm1 hs4 hat1 hat4) gL_X6_give rfl ⟨rfl, rfl⟩ (by decide +kernel) rfl (by decide) (by decide) E_158 rfl rfl (Nat.le_of_ble_eq_true rfl) (Nat.le_of_ble_eq_true rfl) (Nat.le_of_ble_eq_true rfl) dL_law_310 (fun r' M2 P2 hm2 => ?_)
  obtain ⟨e, hw⟩ := S_give hW hB hc hm2
  exact y_icmp_eq h.1 857 dL_law_313 (by decide) (fun _ => kk M2 P2 hw) (fun c => absurd e c)

set_option maxRecDepth 100000 in
set_option maxHeartbeats 4000000 in
theorem lc_netOf {x : iC} {g : Geo} {b L i : Nat} {xs : Nat → Int32} {l : Launch} {M : Nat → Nat → Int32} {P : Nat → Nat} {B N K s at_ ln : Nat} {tx : Nat → Nat} (hx : x.1.2.1 = l) (h : Lk x g b L xs) (hL : L < 2 ^ 31) (hi : i + 5 < L) (hB : B + 9999 < 2 ^ 30) (hW : WI M P B N K s at_ tx ln) (kk : ∀ M' P', Wst M' P' (B + 9999) → Y x 857 [(3, .int (nI i)), (2, .ref (g.1 158)), (1, .ref (g.1 144)), (0, .ref b)] [] (wW g.1 (enc g M' P')) 168 8061) : Y x 318 [(3, .int (nI i)), (2, .ref (g.1 158)), (1, .ref (g.1 144)), (0, .ref b)] [] (wW g.1 (enc g M P)) 168 8061 := by
  obtain ⟨hP, hNb, hp, ⟨hs, hs4, hm, hat, hat4⟩, hH, hT, hU⟩ := id hW
  have hI := hp.1.1
  refine y_aload_n h.1 2 dL_law_318 rfl rfl ?_
  refine y_aload_n h.1 3 dL_law_319 rfl rfl ?_
  refine y_iload_n h.1 0 dL_law_320 rfl rfl ?_
  refine y_iconst h.1 (nI 1) dL_law_321 (by decide) ?_
  refine y_iadd_n h.1 dL_law_322 ?_
  refine y_sld h (by omega) hL dL_law_323 ?_
  refine y_aload_n h.1 3 dL_law_324 rfl rfl ?_
  refine y_iload_n h.1 0 dL_law_325 rfl rfl ?_
  refine y_iconst h.1 (nI 2) dL_law_326 (by decide) ?_
  refine y_iadd_n h.1 dL_law_327 ?_
  refine y_sld h (by omega) hL dL_law_328 ?_
  refine y_callV h (As := [.int (xs (i + 1)), .int (xs (i + 2))]) 2 hx (c_X5_netOf hP hI) gL_X5_netOf rfl ⟨rfl, rfl⟩ (by decide +kernel) rfl (by decide) (by decide) E_144 rfl rfl (Nat.le_of_ble_eq_true rfl) (Nat.le_of_ble_eq_true rfl) (Nat.le_of_ble_eq_true rfl) dL_law_329 (fun r M1 P1 hc => ?_)
  have hk : ∀ k, 157 < k → M1 k = M k := fun k _ => by rw [hc.1.2]
  have hI1 : InvX eM (M1 159) N K B := by rw [hk 159 (by decide)]; exact hp.1.2.1
  have hZ1 : Zn (M1 159) N := by rw [hk 159 (by decide)]; exact hp.1.2.2.1
  have hm1 : M1 158 5 = nI s := by rw [hk 158 (by decide)]; exact hm
  have hat1 : M1 158 6 = nI at_ := by rw [hk 158 (by decide)]; exact hat
  have hU1 : TxN M1 tx ln := TxN_cg (by rw [hk 158 (by decide)]) (hk 163 (by decide)) hU
  refine y_aload_n h.1 1 dL_law_332 rfl rfl ?_
  refine y_aload_n h.1 3 dL_law_333 rfl rfl ?_
  refine y_iload_n h.1 0 dL_law_334 rfl rfl ?_
  refine y_iconst h.1 (nI 1) dL_law_335 (by decide) ?_
  refine y_iadd_n h.1 dL_law_336 ?_
  refine y_sld h (by omega) hL dL_law_337 ?_
  refine y_aload_n h.1 3 dL_law_338 rfl rfl ?_
  refine y_iload_n h.1 0 dL_law_339 rfl rfl ?_
  refine y_iconst h.1 (nI 2) dL_law_340 (by decide) ?_
  refine y_iadd_n h.1 dL_law_341 ?_
  refine y_sld h (by omega) hL dL_law_342 ?_
  refine y_callV h (As := [.int (xs (i + 1)), .int (xs (i + 2))]) 2 hx (c_X6_netOf hI1) gL_X6_netOf rfl ⟨rfl, rfl⟩ (by decide +kernel) rfl (by decide) (by decide) E_158 rfl rfl (Nat.le_of_ble_eq_true rfl) (Nat.le_of_ble_eq_true rfl) (Nat.le_of_ble_eq_true rfl) dL_law_343 (fun r' M2 P2 hm2 => ?_)
  obtain ⟨e, hw⟩ := S_netOf hW hB hc hm2
  exact y_icmp_eq h.1 857 dL_law_346 (by decide) (fun _ => kk M2 P2 hw) (fun c => absurd e c)

set_option maxRecDepth 100000 in
set_option maxHeartbeats 4000000 in
theorem lc_cellOf {x : iC} {g : Geo} {b L i : Nat} {xs : Nat → Int32} {l : Launch} {M : Nat → Nat → Int32} {P : Nat → Nat} {B N K s at_ ln : Nat} {tx : Nat → Nat} (hx : x.1.2.1 = l) (h : Lk x g b L xs) (hL : L < 2 ^ 31) (hi : i + 5 < L) (hB : B + 9999 < 2 ^ 30) (hW : WI M P B N K s at_ tx ln) (kk : ∀ M' P', Wst M' P' (B + 9999) → Y x 857 [(3, .int (nI i)), (2, .ref (g.1 158)), (1, .ref (g.1 144)), (0, .ref b)] [] (wW g.1 (enc g M' P')) 168 8061) : Y x 351 [(3, .int (nI i)), (2, .ref (g.1 158)), (1, .ref (g.1 144)), (0, .ref b)] [] (wW g.1 (enc g M P)) 168 8061 := by
  obtain ⟨hP, hNb, hp, ⟨hs, hs4, hm, hat, hat4⟩, hH, hT, hU⟩ := id hW
  have hI := hp.1.1
  refine y_aload_n h.1 2 dL_law_351 rfl rfl ?_
  refine y_aload_n h.1 3 dL_law_352 rfl rfl ?_
  refine y_iload_n h.1 0 dL_law_353 rfl rfl ?_
  refine y_iconst h.1 (nI 1) dL_law_354 (by decide) ?_
  refine y_iadd_n h.1 dL_law_355 ?_
  refine y_sld h (by omega) hL dL_law_356 ?_
  refine y_callV h (As := [.int (xs (i + 1))]) 1 hx (c_X5_cellOf hP hI) gL_X5_cellOf rfl ⟨rfl, rfl⟩ (by decide +kernel) rfl (by decide) (by decide) E_144 rfl rfl (Nat.le_of_ble_eq_true rfl) (Nat.le_of_ble_eq_true rfl) (Nat.le_of_ble_eq_true rfl) dL_law_357 (fun r M1 P1 hc => ?_)
  have hk : ∀ k, 157 < k → M1 k = M k := fun k _ => by rw [hc.1.2]
  have hI1 : InvX eM (M1 159) N K B := by rw [hk 159 (by decide)]; exact hp.1.2.1
  have hZ1 : Zn (M1 159) N := by rw [hk 159 (by decide)]; exact hp.1.2.2.1
  have hm1 : M1 158 5 = nI s := by rw [hk 158 (by decide)]; exact hm
  have hat1 : M1 158 6 = nI at_ := by rw [hk 158 (by decide)]; exact hat
  have hU1 : TxN M1 tx ln := TxN_cg (by rw [hk 158 (by decide)]) (hk 163 (by decide)) hU
  refine y_aload_n h.1 1 dL_law_360 rfl rfl ?_
  refine y_aload_n h.1 3 dL_law_361 rfl rfl ?_
  refine y_iload_n h.1 0 dL_law_362 rfl rfl ?_
  refine y_iconst h.1 (nI 1) dL_law_363 (by decide) ?_
  refine y_iadd_n h.1 dL_law_364 ?_
  refine y_sld h (by omega) hL dL_law_365 ?_
  refine y_callV h (As := [.int (xs (i + 1))]) 1 hx (c_X6_cellOf ) gL_X6_cellOf rfl ⟨rfl, rfl⟩ (by decide +kernel) rfl (by decide) (by decide) E_158 rfl rfl (Nat.le_of_ble_eq_true rfl) (Nat.le_of_ble_eq_true rfl) (Nat.le_of_ble_eq_true rfl) dL_law_366 (fun r' M2 P2 hm2 => ?_)
  obtain ⟨e, hw⟩ := S_cellOf hW hB hc hm2
  exact y_icmp_eq h.1 857 dL_law_369 (by decide) (fun _ => kk M2 P2 hw) (fun c => absurd e c)

set_option maxRecDepth 100000 in
set_option maxHeartbeats 4000000 in
theorem lc_wireAt {x : iC} {g : Geo} {b L i : Nat} {xs : Nat → Int32} {l : Launch} {M : Nat → Nat → Int32} {P : Nat → Nat} {B N K s at_ ln : Nat} {tx : Nat → Nat} (hx : x.1.2.1 = l) (h : Lk x g b L xs) (hL : L < 2 ^ 31) (hi : i + 5 < L) (hB : B + 9999 < 2 ^ 30) (hW : WI M P B N K s at_ tx ln) (kk : ∀ M' P', Wst M' P' (B + 9999) → Y x 857 [(3, .int (nI i)), (2, .ref (g.1 158)), (1, .ref (g.1 144)), (0, .ref b)] [] (wW g.1 (enc g M' P')) 168 8061) : Y x 374 [(3, .int (nI i)), (2, .ref (g.1 158)), (1, .ref (g.1 144)), (0, .ref b)] [] (wW g.1 (enc g M P)) 168 8061 := by
  obtain ⟨hP, hNb, hp, ⟨hs, hs4, hm, hat, hat4⟩, hH, hT, hU⟩ := id hW
  have hI := hp.1.1
  refine y_aload_n h.1 2 dL_law_374 rfl rfl ?_
  refine y_aload_n h.1 3 dL_law_375 rfl rfl ?_
  refine y_iload_n h.1 0 dL_law_376 rfl rfl ?_
  refine y_iconst h.1 (nI 1) dL_law_377 (by decide) ?_
  refine y_iadd_n h.1 dL_law_378 ?_
  refine y_sld h (by omega) hL dL_law_379 ?_
  refine y_aload_n h.1 3 dL_law_380 rfl rfl ?_
  refine y_iload_n h.1 0 dL_law_381 rfl rfl ?_
  refine y_iconst h.1 (nI 2) dL_law_382 (by decide) ?_
  refine y_iadd_n h.1 dL_law_383 ?_
  refine y_sld h (by omega) hL dL_law_384 ?_
  refine y_callV h (As := [.int (xs (i + 1)), .int (xs (i + 2))]) 2 hx (c_X5_wireAt hP hI) gL_X5_wireAt rfl ⟨rfl, rfl⟩ (by decide +kernel) rfl (by decide) (by decide) E_144 rfl rfl (Nat.le_of_ble_eq_true rfl) (Nat.le_of_ble_eq_true rfl) (Nat.le_of_ble_eq_true rfl) dL_law_385 (fun r M1 P1 hc => ?_)
  have hk : ∀ k, 157 < k → M1 k = M k := fun k _ => by rw [hc.1.2]
  have hI1 : InvX eM (M1 159) N K B := by rw [hk 159 (by decide)]; exact hp.1.2.1
  have hZ1 : Zn (M1 159) N := by rw [hk 159 (by decide)]; exact hp.1.2.2.1
  have hm1 : M1 158 5 = nI s := by rw [hk 158 (by decide)]; exact hm
  have hat1 : M1 158 6 = nI at_ := by rw [hk 158 (by decide)]; exact hat
  have hU1 : TxN M1 tx ln := TxN_cg (by rw [hk 158 (by decide)]) (hk 163 (by decide)) hU
  refine y_aload_n h.1 1 dL_law_388 rfl rfl ?_
  refine y_aload_n h.1 3 dL_law_389 rfl rfl ?_
  refine y_iload_n h.1 0 dL_law_390 rfl rfl ?_
  refine y_iconst h.1 (nI 1) dL_law_391 (by decide) ?_
  refine y_iadd_n h.1 dL_law_392 ?_
  refine y_sld h (by omega) hL dL_law_393 ?_
  refine y_aload_n h.1 3 dL_law_394 rfl rfl ?_
  refine y_iload_n h.1 0 dL_law_395 rfl rfl ?_
  refine y_iconst h.1 (nI 2) dL_law_396 (by decide) ?_
  refine y_iadd_n h.1 dL_law_397 ?_
  refine y_sld h (by omega) hL dL_law_398 ?_
  refine y_callV h (As := [.int (xs (i + 1)), .int (xs (i + 2))]) 2 hx (c_X6_wireAt hI1) gL_X6_wireAt rfl ⟨rfl, rfl⟩ (by decide +kernel) rfl (by decide) (by decide) E_158 rfl rfl (Nat.le_of_ble_eq_true rfl) (Nat.le_of_ble_eq_true rfl) (Nat.le_of_ble_eq_true rfl) dL_law_399 (fun r' M2 P2 hm2 => ?_)
  obtain ⟨e, hw⟩ := S_wireAt hW hB hc hm2
  exact y_icmp_eq h.1 857 dL_law_402 (by decide) (fun _ => kk M2 P2 hw) (fun c => absurd e c)
