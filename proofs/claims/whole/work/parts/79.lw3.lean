theorem MG.kp {v v' : gj_V} {m : Nat} {A : aS} {t : Int32} {l : List (aS × Int32)} {tx : List Int32} {c : Nat → Int32} (h : MG v m A t l tx c) (e : ∀ a, m ≤ a → a < m + 13 → v' a = v a) : MG v' m A t l tx c := h.oth (fun a ha => e a (by omega) (by omega)) (by rw [e m (by omega) (by omega)]) (by rw [e m (by omega) (by omega)])
theorem lc_0 (z : Int64) : lg_cmp z z = 0 := by
  unfold lg_cmp
  rw [if_neg Int64.lt_irrefl, if_pos rfl]

set_option maxRecDepth 100000 in
set_option maxHeartbeats 4000000 in
theorem law_begins {X : gj_X} {p : Program} {e : Env} {s : State} {m : MethodId} {below : List Frame} {meth : Method} {c : Code} {b nx lim : Nat} {xs : Nat → Int32} {σ : gj_H} {v : gj_V} {kc ks x i : Nat} (C : lw_C X p s m meth c b nx xs) (hn : nx ≤ 3072) (hi : i + 6 ≤ nx) (hkc : kc ≤ 600000) (hks : ks ≤ 7302250) (hs : gsh σ x) (hm : msh σ (x + 477)) (hV : LV (GR v x) (MG v (x + 477))) (hk : ∀ v' : gj_V, LV (GR v' x) (MG v' (x + 477)) → lw_G X p e s m below meth c b lim σ v' kc ks 965 [some (.ref b), some (.ref x), some (.ref (x + 477)), some (.int (nI i))] []) : lw_G X p e s m below meth c b lim σ v kc ks 160 [some (.ref b), some (.ref x), some (.ref (x + 477)), some (.int (nI i))] [] := by
  obtain ⟨A, t, l, tx, cc, hG, hM, ⟨n, sn, hI⟩, hH, hB⟩ := hV
  have hx0 := hs.1
  have hm0 := hm.1
  refine gl_aload_n C (q := 161) dL_law_160 rfl rfl ?_
  refine gl_aload_n C (q := 162) dL_law_161 rfl rfl ?_
  refine gl_iload_n C (q := 163) dL_law_162 rfl rfl ?_
  refine gl_iconst C (q := 164) (x := 1) dL_law_163 (by decide) rfl ?_
  refine gl_iadd C (q := 165) dL_law_164 rfl ?_
  refine gl_sld C (q := 166) (j := i + 1) (by simp only [gn_lit, nI_add]) (by omega) hn dL_law_165 rfl ?_
  refine gl_Vi C (q := 169) (p_X10_begins hs hG hI) k_L_13 hx0 rfl (by decide) rfl rfl (Nat.le_of_ble_eq_true rfl) rfl rfl hkc hks dL_law_166 rfl ?_
  rintro z1 w1 ⟨hz1, hf1⟩
  have hM1 := hM.kp (v' := w1) (fun a g1 g2 => hf1 a (by omega))
  refine gl_aload_n C (q := 170) dL_law_169 rfl rfl ?_
  refine gl_aload_n C (q := 171) dL_law_170 rfl rfl ?_
  refine gl_iload_n C (q := 172) dL_law_171 rfl rfl ?_
  refine gl_iconst C (q := 173) (x := 1) dL_law_172 (by decide) rfl ?_
  refine gl_iadd C (q := 174) dL_law_173 rfl ?_
  refine gl_sld C (q := 175) (j := i + 1) (by simp only [gn_lit, nI_add]) (by omega) hn dL_law_174 rfl ?_
  refine gl_Vi C (q := 178) (p_X11_begins hm hM1 hI) k_L_17 hm0 rfl (by decide) rfl rfl (Nat.le_of_ble_eq_true rfl) rfl rfl hkc hks dL_law_175 rfl ?_
  rintro z2 w2 ⟨hz2, hf2⟩
  obtain ⟨ez, hV2⟩ := cb_begins hz1 hz2 hI hH hB
  have hV3 := hV2.keep (fun a g => hf2 a (by omega))
  exact gl_icmpeq C (t := 965) (q := 181) dL_law_178 (by decide) rfl (fun _ => hk _ hV3) (fun h => absurd ez h)

set_option maxRecDepth 100000 in
set_option maxHeartbeats 4000000 in
theorem law_rooms {X : gj_X} {p : Program} {e : Env} {s : State} {m : MethodId} {below : List Frame} {meth : Method} {c : Code} {b nx lim : Nat} {xs : Nat → Int32} {σ : gj_H} {v : gj_V} {kc ks x i : Nat} (C : lw_C X p s m meth c b nx xs) (hn : nx ≤ 3072) (hi : i + 6 ≤ nx) (hkc : kc ≤ 600000) (hks : ks ≤ 7302250) (hs : gsh σ x) (hm : msh σ (x + 477)) (hV : LV (GR v x) (MG v (x + 477))) (hk : ∀ v' : gj_V, LV (GR v' x) (MG v' (x + 477)) → lw_G X p e s m below meth c b lim σ v' kc ks 965 [some (.ref b), some (.ref x), some (.ref (x + 477)), some (.int (nI i))] []) : lw_G X p e s m below meth c b lim σ v kc ks 183 [some (.ref b), some (.ref x), some (.ref (x + 477)), some (.int (nI i))] [] := by
  obtain ⟨A, t, l, tx, cc, hG, hM, ⟨n, sn, hI⟩, hH, hB⟩ := hV
  have hx0 := hs.1
  have hm0 := hm.1
  refine gl_aload_n C (q := 184) dL_law_183 rfl rfl ?_
  refine gl_aload_n C (q := 185) dL_law_184 rfl rfl ?_
  refine gl_iload_n C (q := 186) dL_law_185 rfl rfl ?_
  refine gl_iconst C (q := 187) (x := 1) dL_law_186 (by decide) rfl ?_
  refine gl_iadd C (q := 188) dL_law_187 rfl ?_
  refine gl_sld C (q := 189) (j := i + 1) (by simp only [gn_lit, nI_add]) (by omega) hn dL_law_188 rfl ?_
  refine gl_aload_n C (q := 190) dL_law_189 rfl rfl ?_
  refine gl_iload_n C (q := 191) dL_law_190 rfl rfl ?_
  refine gl_iconst C (q := 192) (x := 2) dL_law_191 (by decide) rfl ?_
  refine gl_iadd C (q := 193) dL_law_192 rfl ?_
  refine gl_sld C (q := 194) (j := i + 2) (by simp only [gn_lit, nI_add]) (by omega) hn dL_law_193 rfl ?_
  refine gl_Vi C (q := 197) (p_X10_rooms hs hG hI) k_L_18 hx0 rfl (by decide) rfl rfl (Nat.le_of_ble_eq_true rfl) rfl rfl hkc hks dL_law_194 rfl ?_
  rintro z1 w1 ⟨hz1, hf1⟩
  have hM1 := hM.kp (v' := w1) (fun a g1 g2 => hf1 a (by omega))
  refine gl_aload_n C (q := 198) dL_law_197 rfl rfl ?_
  refine gl_aload_n C (q := 199) dL_law_198 rfl rfl ?_
  refine gl_iload_n C (q := 200) dL_law_199 rfl rfl ?_
  refine gl_iconst C (q := 201) (x := 1) dL_law_200 (by decide) rfl ?_
  refine gl_iadd C (q := 202) dL_law_201 rfl ?_
  refine gl_sld C (q := 203) (j := i + 1) (by simp only [gn_lit, nI_add]) (by omega) hn dL_law_202 rfl ?_
  refine gl_aload_n C (q := 204) dL_law_203 rfl rfl ?_
  refine gl_iload_n C (q := 205) dL_law_204 rfl rfl ?_
  refine gl_iconst C (q := 206) (x := 2) dL_law_205 (by decide) rfl ?_
  refine gl_iadd C (q := 207) dL_law_206 rfl ?_
  refine gl_sld C (q := 208) (j := i + 2) (by simp only [gn_lit, nI_add]) (by omega) hn dL_law_207 rfl ?_
  refine gl_Vi C (q := 211) (p_X11_rooms hm hM1 hI) k_L_22 hm0 rfl (by decide) rfl rfl (Nat.le_of_ble_eq_true rfl) rfl rfl hkc hks dL_law_208 rfl ?_
  rintro z2 w2 ⟨hz2, hf2⟩
  obtain ⟨ez, hV2⟩ := cb_rooms hz1 hz2 hI hH hB
  have hV3 := hV2.keep (fun a g => hf2 a (by omega))
  exact gl_icmpeq C (t := 965) (q := 214) dL_law_211 (by decide) rfl (fun _ => hk _ hV3) (fun h => absurd ez h)

set_option maxRecDepth 100000 in
set_option maxHeartbeats 4000000 in
theorem law_station {X : gj_X} {p : Program} {e : Env} {s : State} {m : MethodId} {below : List Frame} {meth : Method} {c : Code} {b nx lim : Nat} {xs : Nat → Int32} {σ : gj_H} {v : gj_V} {kc ks x i : Nat} (C : lw_C X p s m meth c b nx xs) (hn : nx ≤ 3072) (hi : i + 6 ≤ nx) (hkc : kc ≤ 600000) (hks : ks ≤ 7302250) (hs : gsh σ x) (hm : msh σ (x + 477)) (hV : LV (GR v x) (MG v (x + 477))) (hk : ∀ v' : gj_V, LV (GR v' x) (MG v' (x + 477)) → lw_G X p e s m below meth c b lim σ v' kc ks 965 [some (.ref b), some (.ref x), some (.ref (x + 477)), some (.int (nI i))] []) : lw_G X p e s m below meth c b lim σ v kc ks 216 [some (.ref b), some (.ref x), some (.ref (x + 477)), some (.int (nI i))] [] := by
  obtain ⟨A, t, l, tx, cc, hG, hM, ⟨n, sn, hI⟩, hH, hB⟩ := hV
  have hx0 := hs.1
  have hm0 := hm.1
  refine gl_aload_n C (q := 217) dL_law_216 rfl rfl ?_
  refine gl_aload_n C (q := 218) dL_law_217 rfl rfl ?_
  refine gl_iload_n C (q := 219) dL_law_218 rfl rfl ?_
  refine gl_iconst C (q := 220) (x := 1) dL_law_219 (by decide) rfl ?_
  refine gl_iadd C (q := 221) dL_law_220 rfl ?_
  refine gl_sld C (q := 222) (j := i + 1) (by simp only [gn_lit, nI_add]) (by omega) hn dL_law_221 rfl ?_
  refine gl_aload_n C (q := 223) dL_law_222 rfl rfl ?_
  refine gl_iload_n C (q := 224) dL_law_223 rfl rfl ?_
  refine gl_iconst C (q := 225) (x := 2) dL_law_224 (by decide) rfl ?_
  refine gl_iadd C (q := 226) dL_law_225 rfl ?_
  refine gl_sld C (q := 227) (j := i + 2) (by simp only [gn_lit, nI_add]) (by omega) hn dL_law_226 rfl ?_
  refine gl_aload_n C (q := 228) dL_law_227 rfl rfl ?_
  refine gl_iload_n C (q := 229) dL_law_228 rfl rfl ?_
  refine gl_iconst C (q := 230) (x := 3) dL_law_229 (by decide) rfl ?_
  refine gl_iadd C (q := 231) dL_law_230 rfl ?_
  refine gl_sld C (q := 232) (j := i + 3) (by simp only [gn_lit, nI_add]) (by omega) hn dL_law_231 rfl ?_
  refine gl_aload_n C (q := 233) dL_law_232 rfl rfl ?_
  refine gl_iload_n C (q := 234) dL_law_233 rfl rfl ?_
  refine gl_iconst C (q := 235) (x := 4) dL_law_234 (by decide) rfl ?_
  refine gl_iadd C (q := 236) dL_law_235 rfl ?_
  refine gl_sld C (q := 237) (j := i + 4) (by simp only [gn_lit, nI_add]) (by omega) hn dL_law_236 rfl ?_
  refine gl_aload_n C (q := 238) dL_law_237 rfl rfl ?_
  refine gl_iload_n C (q := 239) dL_law_238 rfl rfl ?_
  refine gl_iconst C (q := 240) (x := 5) dL_law_239 (by decide) rfl ?_
  refine gl_iadd C (q := 241) dL_law_240 rfl ?_
  refine gl_sld C (q := 242) (j := i + 5) (by simp only [gn_lit, nI_add]) (by omega) hn dL_law_241 rfl ?_
  refine gl_Vi C (q := 245) (p_X10_station hs hG hI) k_L_23 hx0 rfl (by decide) rfl rfl (Nat.le_of_ble_eq_true rfl) rfl rfl hkc hks dL_law_242 rfl ?_
  rintro z1 w1 ⟨hz1, hf1⟩
  have hM1 := hM.kp (v' := w1) (fun a g1 g2 => hf1 a (by omega))
  refine gl_aload_n C (q := 246) dL_law_245 rfl rfl ?_
  refine gl_aload_n C (q := 247) dL_law_246 rfl rfl ?_
  refine gl_iload_n C (q := 248) dL_law_247 rfl rfl ?_
  refine gl_iconst C (q := 249) (x := 1) dL_law_248 (by decide) rfl ?_
  refine gl_iadd C (q := 250) dL_law_249 rfl ?_
  refine gl_sld C (q := 251) (j := i + 1) (by simp only [gn_lit, nI_add]) (by omega) hn dL_law_250 rfl ?_
  refine gl_aload_n C (q := 252) dL_law_251 rfl rfl ?_
  refine gl_iload_n C (q := 253) dL_law_252 rfl rfl ?_
  refine gl_iconst C (q := 254) (x := 2) dL_law_253 (by decide) rfl ?_
  refine gl_iadd C (q := 255) dL_law_254 rfl ?_
  refine gl_sld C (q := 256) (j := i + 2) (by simp only [gn_lit, nI_add]) (by omega) hn dL_law_255 rfl ?_
  refine gl_aload_n C (q := 257) dL_law_256 rfl rfl ?_
  refine gl_iload_n C (q := 258) dL_law_257 rfl rfl ?_
  refine gl_iconst C (q := 259) (x := 3) dL_law_258 (by decide) rfl ?_
  refine gl_iadd C (q := 260) dL_law_259 rfl ?_
  refine gl_sld C (q := 261) (j := i + 3) (by simp only [gn_lit, nI_add]) (by omega) hn dL_law_260 rfl ?_
  refine gl_aload_n C (q := 262) dL_law_261 rfl rfl ?_
  refine gl_iload_n C (q := 263) dL_law_262 rfl rfl ?_
  refine gl_iconst C (q := 264) (x := 4) dL_law_263 (by decide) rfl ?_
  refine gl_iadd C (q := 265) dL_law_264 rfl ?_
  refine gl_sld C (q := 266) (j := i + 4) (by simp only [gn_lit, nI_add]) (by omega) hn dL_law_265 rfl ?_
  refine gl_aload_n C (q := 267) dL_law_266 rfl rfl ?_
  refine gl_iload_n C (q := 268) dL_law_267 rfl rfl ?_
  refine gl_iconst C (q := 269) (x := 5) dL_law_268 (by decide) rfl ?_
  refine gl_iadd C (q := 270) dL_law_269 rfl ?_
  refine gl_sld C (q := 271) (j := i + 5) (by simp only [gn_lit, nI_add]) (by omega) hn dL_law_270 rfl ?_
  refine gl_Vi C (q := 274) (p_X11_station hm hM1 hI) k_L_27 hm0 rfl (by decide) rfl rfl (Nat.le_of_ble_eq_true rfl) rfl rfl hkc hks dL_law_271 rfl ?_
  rintro z2 w2 ⟨hz2, hf2⟩
  obtain ⟨ez, hV2⟩ := cb_stat hz1 hz2 hI hH hB
  have hV3 := hV2.keep (fun a g => hf2 a (by omega))
  exact gl_icmpeq C (t := 965) (q := 277) dL_law_274 (by decide) rfl (fun _ => hk _ hV3) (fun h => absurd ez h)

set_option maxRecDepth 100000 in
set_option maxHeartbeats 4000000 in
theorem law_guards {X : gj_X} {p : Program} {e : Env} {s : State} {m : MethodId} {below : List Frame} {meth : Method} {c : Code} {b nx lim : Nat} {xs : Nat → Int32} {σ : gj_H} {v : gj_V} {kc ks x i : Nat} (C : lw_C X p s m meth c b nx xs) (hn : nx ≤ 3072) (hi : i + 6 ≤ nx) (hkc : kc ≤ 600000) (hks : ks ≤ 7302250) (hs : gsh σ x) (hm : msh σ (x + 477)) (hV : LV (GR v x) (MG v (x + 477))) (hk : ∀ v' : gj_V, LV (GR v' x) (MG v' (x + 477)) → lw_G X p e s m below meth c b lim σ v' kc ks 965 [some (.ref b), some (.ref x), some (.ref (x + 477)), some (.int (nI i))] []) : lw_G X p e s m below meth c b lim σ v kc ks 279 [some (.ref b), some (.ref x), some (.ref (x + 477)), some (.int (nI i))] [] := by
  obtain ⟨A, t, l, tx, cc, hG, hM, ⟨n, sn, hI⟩, hH, hB⟩ := hV
  have hx0 := hs.1
  have hm0 := hm.1
  refine gl_aload_n C (q := 280) dL_law_279 rfl rfl ?_
  refine gl_aload_n C (q := 281) dL_law_280 rfl rfl ?_
  refine gl_iload_n C (q := 282) dL_law_281 rfl rfl ?_
  refine gl_iconst C (q := 283) (x := 1) dL_law_282 (by decide) rfl ?_
  refine gl_iadd C (q := 284) dL_law_283 rfl ?_
  refine gl_sld C (q := 285) (j := i + 1) (by simp only [gn_lit, nI_add]) (by omega) hn dL_law_284 rfl ?_
  refine gl_aload_n C (q := 286) dL_law_285 rfl rfl ?_
  refine gl_iload_n C (q := 287) dL_law_286 rfl rfl ?_
  refine gl_iconst C (q := 288) (x := 2) dL_law_287 (by decide) rfl ?_
  refine gl_iadd C (q := 289) dL_law_288 rfl ?_
  refine gl_sld C (q := 290) (j := i + 2) (by simp only [gn_lit, nI_add]) (by omega) hn dL_law_289 rfl ?_
  refine gl_Vi C (q := 293) (p_X10_guards hs hG hI) k_L_28 hx0 rfl (by decide) rfl rfl (Nat.le_of_ble_eq_true rfl) rfl rfl hkc hks dL_law_290 rfl ?_
  rintro z1 w1 ⟨hz1, hf1⟩
  have hM1 := hM.kp (v' := w1) (fun a g1 g2 => hf1 a (by omega))
  refine gl_aload_n C (q := 294) dL_law_293 rfl rfl ?_
  refine gl_aload_n C (q := 295) dL_law_294 rfl rfl ?_
  refine gl_iload_n C (q := 296) dL_law_295 rfl rfl ?_
  refine gl_iconst C (q := 297) (x := 1) dL_law_296 (by decide) rfl ?_
  refine gl_iadd C (q := 298) dL_law_297 rfl ?_
  refine gl_sld C (q := 299) (j := i + 1) (by simp only [gn_lit, nI_add]) (by omega) hn dL_law_298 rfl ?_
  refine gl_aload_n C (q := 300) dL_law_299 rfl rfl ?_
  refine gl_iload_n C (q := 301) dL_law_300 rfl rfl ?_
  refine gl_iconst C (q := 302) (x := 2) dL_law_301 (by decide) rfl ?_
  refine gl_iadd C (q := 303) dL_law_302 rfl ?_
  refine gl_sld C (q := 304) (j := i + 2) (by simp only [gn_lit, nI_add]) (by omega) hn dL_law_303 rfl ?_
  refine gl_Vi C (q := 307) (p_X11_guards hm hM1 hI) k_L_31 hm0 rfl (by decide) rfl rfl (Nat.le_of_ble_eq_true rfl) rfl rfl hkc hks dL_law_304 rfl ?_
  rintro z2 w2 ⟨hz2, hf2⟩
  obtain ⟨ez, hV2⟩ := cb_guards hz1 hz2 hI hH hB
  have hV3 := hV2.keep (fun a g => hf2 a (by omega))
  exact gl_icmpeq C (t := 965) (q := 310) dL_law_307 (by decide) rfl (fun _ => hk _ hV3) (fun h => absurd ez h)

set_option maxRecDepth 100000 in
set_option maxHeartbeats 4000000 in
theorem law_ticks {X : gj_X} {p : Program} {e : Env} {s : State} {m : MethodId} {below : List Frame} {meth : Method} {c : Code} {b nx lim : Nat} {xs : Nat → Int32} {σ : gj_H} {v : gj_V} {kc ks x i : Nat} (C : lw_C X p s m meth c b nx xs) (hn : nx ≤ 3072) (hi : i + 6 ≤ nx) (hkc : kc ≤ 600000) (hks : ks ≤ 7302250) (hs : gsh σ x) (hm : msh σ (x + 477)) (hV : LV (GR v x) (MG v (x + 477))) (hk : ∀ v' : gj_V, LV (GR v' x) (MG v' (x + 477)) → lw_G X p e s m below meth c b lim σ v' kc ks 965 [some (.ref b), some (.ref x), some (.ref (x + 477)), some (.int (nI i))] []) : lw_G X p e s m below meth c b lim σ v kc ks 312 [some (.ref b), some (.ref x), some (.ref (x + 477)), some (.int (nI i))] [] := by
  obtain ⟨A, t, l, tx, cc, hG, hM, ⟨n, sn, hI⟩, hH, hB⟩ := hV
  have hx0 := hs.1
  have hm0 := hm.1
  refine gl_aload_n C (q := 313) dL_law_312 rfl rfl ?_
  refine gl_aload_n C (q := 314) dL_law_313 rfl rfl ?_
  refine gl_iload_n C (q := 315) dL_law_314 rfl rfl ?_
  refine gl_iconst C (q := 316) (x := 1) dL_law_315 (by decide) rfl ?_
  refine gl_iadd C (q := 317) dL_law_316 rfl ?_
  refine gl_sld C (q := 318) (j := i + 1) (by simp only [gn_lit, nI_add]) (by omega) hn dL_law_317 rfl ?_
  refine gl_Vi C (q := 321) (p_X10_ticks hs hG hI) k_L_32 hx0 rfl (by decide) rfl rfl (Nat.le_of_ble_eq_true rfl) rfl rfl hkc hks dL_law_318 rfl ?_
  rintro z1 w1 ⟨hz1, hf1⟩
  have hM1 := hM.kp (v' := w1) (fun a g1 g2 => hf1 a (by omega))
  refine gl_aload_n C (q := 322) dL_law_321 rfl rfl ?_
  refine gl_aload_n C (q := 323) dL_law_322 rfl rfl ?_
  refine gl_iload_n C (q := 324) dL_law_323 rfl rfl ?_
  refine gl_iconst C (q := 325) (x := 1) dL_law_324 (by decide) rfl ?_
  refine gl_iadd C (q := 326) dL_law_325 rfl ?_
  refine gl_sld C (q := 327) (j := i + 1) (by simp only [gn_lit, nI_add]) (by omega) hn dL_law_326 rfl ?_
  refine gl_Vi C (q := 330) (p_X11_ticks hm hM1 hI) k_L_35 hm0 rfl (by decide) rfl rfl (Nat.le_of_ble_eq_true rfl) rfl rfl hkc hks dL_law_327 rfl ?_
  rintro z2 w2 ⟨hz2, hf2⟩
  obtain ⟨ez, hV2⟩ := cb_ticks hz1 hz2 hI hH hB
  have hV3 := hV2.keep (fun a g => hf2 a (by omega))
  exact gl_icmpeq C (t := 965) (q := 333) dL_law_330 (by decide) rfl (fun _ => hk _ hV3) (fun h => absurd ez h)

set_option maxRecDepth 100000 in
set_option maxHeartbeats 4000000 in
theorem law_puts {X : gj_X} {p : Program} {e : Env} {s : State} {m : MethodId} {below : List Frame} {meth : Method} {c : Code} {b nx lim : Nat} {xs : Nat → Int32} {σ : gj_H} {v : gj_V} {kc ks x i : Nat} (C : lw_C X p s m meth c b nx xs) (hn : nx ≤ 3072) (hi : i + 6 ≤ nx) (hkc : kc ≤ 600000) (hks : ks ≤ 7302250) (hs : gsh σ x) (hm : msh σ (x + 477)) (hV : LV (GR v x) (MG v (x + 477))) (hk : ∀ v' : gj_V, LV (GR v' x) (MG v' (x + 477)) → lw_G X p e s m below meth c b lim σ v' kc ks 965 [some (.ref b), some (.ref x), some (.ref (x + 477)), some (.int (nI i))] []) : lw_G X p e s m below meth c b lim σ v kc ks 335 [some (.ref b), some (.ref x), some (.ref (x + 477)), some (.int (nI i))] [] := by
  obtain ⟨A, t, l, tx, cc, hG, hM, ⟨n, sn, hI⟩, hH, hB⟩ := hV
  have hx0 := hs.1
  have hm0 := hm.1
  refine gl_aload_n C (q := 336) dL_law_335 rfl rfl ?_
  refine gl_aload_n C (q := 337) dL_law_336 rfl rfl ?_
  refine gl_iload_n C (q := 338) dL_law_337 rfl rfl ?_
  refine gl_iconst C (q := 339) (x := 1) dL_law_338 (by decide) rfl ?_
  refine gl_iadd C (q := 340) dL_law_339 rfl ?_
  refine gl_sld C (q := 341) (j := i + 1) (by simp only [gn_lit, nI_add]) (by omega) hn dL_law_340 rfl ?_
  refine gl_aload_n C (q := 342) dL_law_341 rfl rfl ?_
  refine gl_iload_n C (q := 343) dL_law_342 rfl rfl ?_
  refine gl_iconst C (q := 344) (x := 2) dL_law_343 (by decide) rfl ?_
  refine gl_iadd C (q := 345) dL_law_344 rfl ?_
  refine gl_sld C (q := 346) (j := i + 2) (by simp only [gn_lit, nI_add]) (by omega) hn dL_law_345 rfl ?_
  refine gl_Vi C (q := 349) (p_X10_puts hs hG hI) k_L_36 hx0 rfl (by decide) rfl rfl (Nat.le_of_ble_eq_true rfl) rfl rfl hkc hks dL_law_346 rfl ?_
  rintro z1 w1 ⟨hz1, hf1⟩
  have hM1 := hM.kp (v' := w1) (fun a g1 g2 => hf1 a (by omega))
  refine gl_aload_n C (q := 350) dL_law_349 rfl rfl ?_
  refine gl_aload_n C (q := 351) dL_law_350 rfl rfl ?_
  refine gl_iload_n C (q := 352) dL_law_351 rfl rfl ?_
  refine gl_iconst C (q := 353) (x := 1) dL_law_352 (by decide) rfl ?_
  refine gl_iadd C (q := 354) dL_law_353 rfl ?_
  refine gl_sld C (q := 355) (j := i + 1) (by simp only [gn_lit, nI_add]) (by omega) hn dL_law_354 rfl ?_
  refine gl_aload_n C (q := 356) dL_law_355 rfl rfl ?_
  refine gl_iload_n C (q := 357) dL_law_356 rfl rfl ?_
  refine gl_iconst C (q := 358) (x := 2) dL_law_357 (by decide) rfl ?_
  refine gl_iadd C (q := 359) dL_law_358 rfl ?_
  refine gl_sld C (q := 360) (j := i + 2) (by simp only [gn_lit, nI_add]) (by omega) hn dL_law_359 rfl ?_
  refine gl_Vi C (q := 363) (p_X11_puts hm hM1 hI) k_L_39 hm0 rfl (by decide) rfl rfl (Nat.le_of_ble_eq_true rfl) rfl rfl hkc hks dL_law_360 rfl ?_
  rintro z2 w2 ⟨hz2, hf2⟩
  obtain ⟨ez, hV2⟩ := cb_puts hz1 hz2 hI hH hB
  have hV3 := hV2.keep (fun a g => hf2 a (by omega))
  exact gl_icmpeq C (t := 965) (q := 366) dL_law_363 (by decide) rfl (fun _ => hk _ hV3) (fun h => absurd ez h)

set_option maxRecDepth 100000 in
set_option maxHeartbeats 4000000 in
theorem law_takes {X : gj_X} {p : Program} {e : Env} {s : State} {m : MethodId} {below : List Frame} {meth : Method} {c : Code} {b nx lim : Nat} {xs : Nat → Int32} {σ : gj_H} {v : gj_V} {kc ks x i : Nat} (C : lw_C X p s m meth c b nx xs) (hn : nx ≤ 3072) (hi : i + 6 ≤ nx) (hkc : kc ≤ 600000) (hks : ks ≤ 7302250) (hs : gsh σ x) (hm : msh σ (x + 477)) (hV : LV (GR v x) (MG v (x + 477))) (hk : ∀ v' : gj_V, LV (GR v' x) (MG v' (x + 477)) → lw_G X p e s m below meth c b lim σ v' kc ks 965 [some (.ref b), some (.ref x), some (.ref (x + 477)), some (.int (nI i))] []) : lw_G X p e s m below meth c b lim σ v kc ks 368 [some (.ref b), some (.ref x), some (.ref (x + 477)), some (.int (nI i))] [] := by
  obtain ⟨A, t, l, tx, cc, hG, hM, ⟨n, sn, hI⟩, hH, hB⟩ := hV
  have hx0 := hs.1
  have hm0 := hm.1
  refine gl_aload_n C (q := 369) dL_law_368 rfl rfl ?_
  refine gl_aload_n C (q := 370) dL_law_369 rfl rfl ?_
  refine gl_iload_n C (q := 371) dL_law_370 rfl rfl ?_
  refine gl_iconst C (q := 372) (x := 1) dL_law_371 (by decide) rfl ?_
  refine gl_iadd C (q := 373) dL_law_372 rfl ?_
  refine gl_sld C (q := 374) (j := i + 1) (by simp only [gn_lit, nI_add]) (by omega) hn dL_law_373 rfl ?_
  refine gl_Vi C (q := 377) (p_X10_takes hs hG hI) k_L_40 hx0 rfl (by decide) rfl rfl (Nat.le_of_ble_eq_true rfl) rfl rfl hkc hks dL_law_374 rfl ?_
  rintro z1 w1 ⟨hz1, hf1⟩
  have hM1 := hM.kp (v' := w1) (fun a g1 g2 => hf1 a (by omega))
  refine gl_aload_n C (q := 378) dL_law_377 rfl rfl ?_
  refine gl_aload_n C (q := 379) dL_law_378 rfl rfl ?_
  refine gl_iload_n C (q := 380) dL_law_379 rfl rfl ?_
  refine gl_iconst C (q := 381) (x := 1) dL_law_380 (by decide) rfl ?_
  refine gl_iadd C (q := 382) dL_law_381 rfl ?_
  refine gl_sld C (q := 383) (j := i + 1) (by simp only [gn_lit, nI_add]) (by omega) hn dL_law_382 rfl ?_
  refine gl_Vi C (q := 386) (p_X11_takes hm hM1 hI) k_L_43 hm0 rfl (by decide) rfl rfl (Nat.le_of_ble_eq_true rfl) rfl rfl hkc hks dL_law_383 rfl ?_
  rintro z2 w2 ⟨hz2, hf2⟩
  obtain ⟨ez, hV2⟩ := cb_takes hz1 hz2 hI hH hB
  have hV3 := hV2.keep (fun a g => hf2 a (by omega))
  exact gl_icmpeq C (t := 965) (q := 389) dL_law_386 (by decide) rfl (fun _ => hk _ hV3) (fun h => absurd ez h)

set_option maxRecDepth 100000 in
set_option maxHeartbeats 4000000 in
theorem law_moves {X : gj_X} {p : Program} {e : Env} {s : State} {m : MethodId} {below : List Frame} {meth : Method} {c : Code} {b nx lim : Nat} {xs : Nat → Int32} {σ : gj_H} {v : gj_V} {kc ks x i : Nat} (C : lw_C X p s m meth c b nx xs) (hn : nx ≤ 3072) (hi : i + 6 ≤ nx) (hkc : kc ≤ 600000) (hks : ks ≤ 7302250) (hs : gsh σ x) (hm : msh σ (x + 477)) (hV : LV (GR v x) (MG v (x + 477))) (hk : ∀ v' : gj_V, LV (GR v' x) (MG v' (x + 477)) → lw_G X p e s m below meth c b lim σ v' kc ks 965 [some (.ref b), some (.ref x), some (.ref (x + 477)), some (.int (nI i))] []) : lw_G X p e s m below meth c b lim σ v kc ks 391 [some (.ref b), some (.ref x), some (.ref (x + 477)), some (.int (nI i))] [] := by
  obtain ⟨A, t, l, tx, cc, hG, hM, ⟨n, sn, hI⟩, hH, hB⟩ := hV
  have hx0 := hs.1
  have hm0 := hm.1
  refine gl_aload_n C (q := 392) dL_law_391 rfl rfl ?_
  refine gl_aload_n C (q := 393) dL_law_392 rfl rfl ?_
  refine gl_iload_n C (q := 394) dL_law_393 rfl rfl ?_
  refine gl_iconst C (q := 395) (x := 1) dL_law_394 (by decide) rfl ?_
  refine gl_iadd C (q := 396) dL_law_395 rfl ?_
  refine gl_sld C (q := 397) (j := i + 1) (by simp only [gn_lit, nI_add]) (by omega) hn dL_law_396 rfl ?_
  refine gl_aload_n C (q := 398) dL_law_397 rfl rfl ?_
  refine gl_iload_n C (q := 399) dL_law_398 rfl rfl ?_
  refine gl_iconst C (q := 400) (x := 2) dL_law_399 (by decide) rfl ?_
  refine gl_iadd C (q := 401) dL_law_400 rfl ?_
  refine gl_sld C (q := 402) (j := i + 2) (by simp only [gn_lit, nI_add]) (by omega) hn dL_law_401 rfl ?_
  refine gl_aload_n C (q := 403) dL_law_402 rfl rfl ?_
  refine gl_iload_n C (q := 404) dL_law_403 rfl rfl ?_
  refine gl_iconst C (q := 405) (x := 3) dL_law_404 (by decide) rfl ?_
  refine gl_iadd C (q := 406) dL_law_405 rfl ?_
  refine gl_sld C (q := 407) (j := i + 3) (by simp only [gn_lit, nI_add]) (by omega) hn dL_law_406 rfl ?_
  refine gl_aload_n C (q := 408) dL_law_407 rfl rfl ?_
  refine gl_iload_n C (q := 409) dL_law_408 rfl rfl ?_
  refine gl_iconst C (q := 410) (x := 4) dL_law_409 (by decide) rfl ?_
  refine gl_iadd C (q := 411) dL_law_410 rfl ?_
  refine gl_sld C (q := 412) (j := i + 4) (by simp only [gn_lit, nI_add]) (by omega) hn dL_law_411 rfl ?_
  refine gl_Vi C (q := 415) (p_X10_moves hs hG hI) k_L_44 hx0 rfl (by decide) rfl rfl (Nat.le_of_ble_eq_true rfl) rfl rfl hkc hks dL_law_412 rfl ?_
  rintro z1 w1 ⟨hz1, hf1⟩
  have hM1 := hM.kp (v' := w1) (fun a g1 g2 => hf1 a (by omega))
  refine gl_aload_n C (q := 416) dL_law_415 rfl rfl ?_
  refine gl_aload_n C (q := 417) dL_law_416 rfl rfl ?_
  refine gl_iload_n C (q := 418) dL_law_417 rfl rfl ?_
  refine gl_iconst C (q := 419) (x := 1) dL_law_418 (by decide) rfl ?_
  refine gl_iadd C (q := 420) dL_law_419 rfl ?_
  refine gl_sld C (q := 421) (j := i + 1) (by simp only [gn_lit, nI_add]) (by omega) hn dL_law_420 rfl ?_
  refine gl_aload_n C (q := 422) dL_law_421 rfl rfl ?_
  refine gl_iload_n C (q := 423) dL_law_422 rfl rfl ?_
  refine gl_iconst C (q := 424) (x := 2) dL_law_423 (by decide) rfl ?_
  refine gl_iadd C (q := 425) dL_law_424 rfl ?_
  refine gl_sld C (q := 426) (j := i + 2) (by simp only [gn_lit, nI_add]) (by omega) hn dL_law_425 rfl ?_
  refine gl_aload_n C (q := 427) dL_law_426 rfl rfl ?_
  refine gl_iload_n C (q := 428) dL_law_427 rfl rfl ?_
  refine gl_iconst C (q := 429) (x := 3) dL_law_428 (by decide) rfl ?_
  refine gl_iadd C (q := 430) dL_law_429 rfl ?_
  refine gl_sld C (q := 431) (j := i + 3) (by simp only [gn_lit, nI_add]) (by omega) hn dL_law_430 rfl ?_
  refine gl_aload_n C (q := 432) dL_law_431 rfl rfl ?_
  refine gl_iload_n C (q := 433) dL_law_432 rfl rfl ?_
  refine gl_iconst C (q := 434) (x := 4) dL_law_433 (by decide) rfl ?_
  refine gl_iadd C (q := 435) dL_law_434 rfl ?_
  refine gl_sld C (q := 436) (j := i + 4) (by simp only [gn_lit, nI_add]) (by omega) hn dL_law_435 rfl ?_
  refine gl_Vi C (q := 439) (p_X11_moves hm hM1 hI) k_L_48 hm0 rfl (by decide) rfl rfl (Nat.le_of_ble_eq_true rfl) rfl rfl hkc hks dL_law_436 rfl ?_
  rintro z2 w2 ⟨hz2, hf2⟩
  obtain ⟨ez, hV2⟩ := cb_moves hz1 hz2 hI hH hB
  have hV3 := hV2.keep (fun a g => hf2 a (by omega))
  exact gl_icmpeq C (t := 965) (q := 442) dL_law_439 (by decide) rfl (fun _ => hk _ hV3) (fun h => absurd ez h)

set_option maxRecDepth 100000 in
set_option maxHeartbeats 4000000 in
theorem law_asks {X : gj_X} {p : Program} {e : Env} {s : State} {m : MethodId} {below : List Frame} {meth : Method} {c : Code} {b nx lim : Nat} {xs : Nat → Int32} {σ : gj_H} {v : gj_V} {kc ks x i : Nat} (C : lw_C X p s m meth c b nx xs) (hn : nx ≤ 3072) (hi : i + 6 ≤ nx) (hkc : kc ≤ 600000) (hks : ks ≤ 7302250) (hs : gsh σ x) (hm : msh σ (x + 477)) (hV : LV (GR v x) (MG v (x + 477))) (hk : ∀ v' : gj_V, LV (GR v' x) (MG v' (x + 477)) → lw_G X p e s m below meth c b lim σ v' kc ks 965 [some (.ref b), some (.ref x), some (.ref (x + 477)), some (.int (nI i))] []) : lw_G X p e s m below meth c b lim σ v kc ks 444 [some (.ref b), some (.ref x), some (.ref (x + 477)), some (.int (nI i))] [] := by
  obtain ⟨A, t, l, tx, cc, hG, hM, ⟨n, sn, hI⟩, hH, hB⟩ := hV
  have hx0 := hs.1
  have hm0 := hm.1
  refine gl_aload_n C (q := 445) dL_law_444 rfl rfl ?_
  refine gl_aload_n C (q := 446) dL_law_445 rfl rfl ?_
  refine gl_iload_n C (q := 447) dL_law_446 rfl rfl ?_
  refine gl_iconst C (q := 448) (x := 1) dL_law_447 (by decide) rfl ?_
  refine gl_iadd C (q := 449) dL_law_448 rfl ?_
  refine gl_sld C (q := 450) (j := i + 1) (by simp only [gn_lit, nI_add]) (by omega) hn dL_law_449 rfl ?_
  refine gl_aload_n C (q := 451) dL_law_450 rfl rfl ?_
  refine gl_iload_n C (q := 452) dL_law_451 rfl rfl ?_
  refine gl_iconst C (q := 453) (x := 2) dL_law_452 (by decide) rfl ?_
  refine gl_iadd C (q := 454) dL_law_453 rfl ?_
  refine gl_sld C (q := 455) (j := i + 2) (by simp only [gn_lit, nI_add]) (by omega) hn dL_law_454 rfl ?_
  refine gl_aload_n C (q := 456) dL_law_455 rfl rfl ?_
  refine gl_iload_n C (q := 457) dL_law_456 rfl rfl ?_
  refine gl_iconst C (q := 458) (x := 3) dL_law_457 (by decide) rfl ?_
  refine gl_iadd C (q := 459) dL_law_458 rfl ?_
  refine gl_sld C (q := 460) (j := i + 3) (by simp only [gn_lit, nI_add]) (by omega) hn dL_law_459 rfl ?_
  refine gl_aload_n C (q := 461) dL_law_460 rfl rfl ?_
  refine gl_iload_n C (q := 462) dL_law_461 rfl rfl ?_
  refine gl_iconst C (q := 463) (x := 4) dL_law_462 (by decide) rfl ?_
  refine gl_iadd C (q := 464) dL_law_463 rfl ?_
  refine gl_sld C (q := 465) (j := i + 4) (by simp only [gn_lit, nI_add]) (by omega) hn dL_law_464 rfl ?_
  refine gl_Vi C (q := 468) (p_X10_asks hs hG hI) k_L_49 hx0 rfl (by decide) rfl rfl (Nat.le_of_ble_eq_true rfl) rfl rfl hkc hks dL_law_465 rfl ?_
  rintro z1 w1 ⟨hz1, hf1⟩
  have hM1 := hM.kp (v' := w1) (fun a g1 g2 => hf1 a (by omega))
  refine gl_aload_n C (q := 469) dL_law_468 rfl rfl ?_
  refine gl_aload_n C (q := 470) dL_law_469 rfl rfl ?_
  refine gl_iload_n C (q := 471) dL_law_470 rfl rfl ?_
  refine gl_iconst C (q := 472) (x := 1) dL_law_471 (by decide) rfl ?_
  refine gl_iadd C (q := 473) dL_law_472 rfl ?_
  refine gl_sld C (q := 474) (j := i + 1) (by simp only [gn_lit, nI_add]) (by omega) hn dL_law_473 rfl ?_
  refine gl_aload_n C (q := 475) dL_law_474 rfl rfl ?_
  refine gl_iload_n C (q := 476) dL_law_475 rfl rfl ?_
  refine gl_iconst C (q := 477) (x := 2) dL_law_476 (by decide) rfl ?_
  refine gl_iadd C (q := 478) dL_law_477 rfl ?_
  refine gl_sld C (q := 479) (j := i + 2) (by simp only [gn_lit, nI_add]) (by omega) hn dL_law_478 rfl ?_
  refine gl_aload_n C (q := 480) dL_law_479 rfl rfl ?_
  refine gl_iload_n C (q := 481) dL_law_480 rfl rfl ?_
  refine gl_iconst C (q := 482) (x := 3) dL_law_481 (by decide) rfl ?_
  refine gl_iadd C (q := 483) dL_law_482 rfl ?_
  refine gl_sld C (q := 484) (j := i + 3) (by simp only [gn_lit, nI_add]) (by omega) hn dL_law_483 rfl ?_
  refine gl_aload_n C (q := 485) dL_law_484 rfl rfl ?_
  refine gl_iload_n C (q := 486) dL_law_485 rfl rfl ?_
  refine gl_iconst C (q := 487) (x := 4) dL_law_486 (by decide) rfl ?_
  refine gl_iadd C (q := 488) dL_law_487 rfl ?_
  refine gl_sld C (q := 489) (j := i + 4) (by simp only [gn_lit, nI_add]) (by omega) hn dL_law_488 rfl ?_
  refine gl_Vi C (q := 492) (p_X11_asks hm hM1 hI) k_L_52 hm0 rfl (by decide) rfl rfl (Nat.le_of_ble_eq_true rfl) rfl rfl hkc hks dL_law_489 rfl ?_
  rintro z2 w2 ⟨hz2, hf2⟩
  obtain ⟨ez, hV2⟩ := cb_asks hz1 hz2 hI hH hB
  have hV3 := hV2.keep (fun a g => hf2 a (by omega))
  exact gl_icmpeq C (t := 965) (q := 495) dL_law_492 (by decide) rfl (fun _ => hk _ hV3) (fun h => absurd ez h)

set_option maxRecDepth 100000 in
set_option maxHeartbeats 4000000 in
theorem law_cancels {X : gj_X} {p : Program} {e : Env} {s : State} {m : MethodId} {below : List Frame} {meth : Method} {c : Code} {b nx lim : Nat} {xs : Nat → Int32} {σ : gj_H} {v : gj_V} {kc ks x i : Nat} (C : lw_C X p s m meth c b nx xs) (hn : nx ≤ 3072) (hi : i + 6 ≤ nx) (hkc : kc ≤ 600000) (hks : ks ≤ 7302250) (hs : gsh σ x) (hm : msh σ (x + 477)) (hV : LV (GR v x) (MG v (x + 477))) (hk : ∀ v' : gj_V, LV (GR v' x) (MG v' (x + 477)) → lw_G X p e s m below meth c b lim σ v' kc ks 965 [some (.ref b), some (.ref x), some (.ref (x + 477)), some (.int (nI i))] []) : lw_G X p e s m below meth c b lim σ v kc ks 497 [some (.ref b), some (.ref x), some (.ref (x + 477)), some (.int (nI i))] [] := by
  obtain ⟨A, t, l, tx, cc, hG, hM, ⟨n, sn, hI⟩, hH, hB⟩ := hV
  have hx0 := hs.1
  have hm0 := hm.1
  refine gl_aload_n C (q := 498) dL_law_497 rfl rfl ?_
  refine gl_aload_n C (q := 499) dL_law_498 rfl rfl ?_
  refine gl_iload_n C (q := 500) dL_law_499 rfl rfl ?_
  refine gl_iconst C (q := 501) (x := 1) dL_law_500 (by decide) rfl ?_
  refine gl_iadd C (q := 502) dL_law_501 rfl ?_
  refine gl_sld C (q := 503) (j := i + 1) (by simp only [gn_lit, nI_add]) (by omega) hn dL_law_502 rfl ?_
  refine gl_Vi C (q := 506) (p_X10_cancels hs hG hI) k_L_53 hx0 rfl (by decide) rfl rfl (Nat.le_of_ble_eq_true rfl) rfl rfl hkc hks dL_law_503 rfl ?_
  rintro z1 w1 ⟨hz1, hf1⟩
  have hM1 := hM.kp (v' := w1) (fun a g1 g2 => hf1 a (by omega))
  refine gl_aload_n C (q := 507) dL_law_506 rfl rfl ?_
  refine gl_aload_n C (q := 508) dL_law_507 rfl rfl ?_
  refine gl_iload_n C (q := 509) dL_law_508 rfl rfl ?_
  refine gl_iconst C (q := 510) (x := 1) dL_law_509 (by decide) rfl ?_
  refine gl_iadd C (q := 511) dL_law_510 rfl ?_
  refine gl_sld C (q := 512) (j := i + 1) (by simp only [gn_lit, nI_add]) (by omega) hn dL_law_511 rfl ?_
  refine gl_Vi C (q := 515) (p_X11_cancels hm hM1 hI) k_L_56 hm0 rfl (by decide) rfl rfl (Nat.le_of_ble_eq_true rfl) rfl rfl hkc hks dL_law_512 rfl ?_
  rintro z2 w2 ⟨hz2, hf2⟩
  obtain ⟨ez, hV2⟩ := cb_canc hz1 hz2 hI hH hB
  have hV3 := hV2.keep (fun a g => hf2 a (by omega))
  exact gl_icmpeq C (t := 965) (q := 518) dL_law_515 (by decide) rfl (fun _ => hk _ hV3) (fun h => absurd ez h)

set_option maxRecDepth 100000 in
set_option maxHeartbeats 4000000 in
theorem law_keeps {X : gj_X} {p : Program} {e : Env} {s : State} {m : MethodId} {below : List Frame} {meth : Method} {c : Code} {b nx lim : Nat} {xs : Nat → Int32} {σ : gj_H} {v : gj_V} {kc ks x i : Nat} (C : lw_C X p s m meth c b nx xs) (hn : nx ≤ 3072) (hi : i + 6 ≤ nx) (hkc : kc ≤ 600000) (hks : ks ≤ 7302250) (hs : gsh σ x) (hm : msh σ (x + 477)) (hV : LV (GR v x) (MG v (x + 477))) (hk : ∀ v' : gj_V, LV (GR v' x) (MG v' (x + 477)) → lw_G X p e s m below meth c b lim σ v' kc ks 965 [some (.ref b), some (.ref x), some (.ref (x + 477)), some (.int (nI i))] []) : lw_G X p e s m below meth c b lim σ v kc ks 520 [some (.ref b), some (.ref x), some (.ref (x + 477)), some (.int (nI i))] [] := by
  obtain ⟨A, t, l, tx, cc, hG, hM, ⟨n, sn, hI⟩, hH, hB⟩ := hV
  have hx0 := hs.1
  have hm0 := hm.1
  refine gl_aload_n C (q := 521) dL_law_520 rfl rfl ?_
  refine gl_aload_n C (q := 522) dL_law_521 rfl rfl ?_
  refine gl_iload_n C (q := 523) dL_law_522 rfl rfl ?_
  refine gl_iconst C (q := 524) (x := 1) dL_law_523 (by decide) rfl ?_
  refine gl_iadd C (q := 525) dL_law_524 rfl ?_
  refine gl_sld C (q := 526) (j := i + 1) (by simp only [gn_lit, nI_add]) (by omega) hn dL_law_525 rfl ?_
  refine gl_aload_n C (q := 527) dL_law_526 rfl rfl ?_
  refine gl_iload_n C (q := 528) dL_law_527 rfl rfl ?_
  refine gl_iconst C (q := 529) (x := 2) dL_law_528 (by decide) rfl ?_
  refine gl_iadd C (q := 530) dL_law_529 rfl ?_
  refine gl_sld C (q := 531) (j := i + 2) (by simp only [gn_lit, nI_add]) (by omega) hn dL_law_530 rfl ?_
  refine gl_Vi C (q := 534) (p_X10_keeps hs hG hI) k_L_57 hx0 rfl (by decide) rfl rfl (Nat.le_of_ble_eq_true rfl) rfl rfl hkc hks dL_law_531 rfl ?_
  rintro z1 w1 ⟨hz1, hf1⟩
  have hM1 := hM.kp (v' := w1) (fun a g1 g2 => hf1 a (by omega))
  refine gl_aload_n C (q := 535) dL_law_534 rfl rfl ?_
  refine gl_aload_n C (q := 536) dL_law_535 rfl rfl ?_
  refine gl_iload_n C (q := 537) dL_law_536 rfl rfl ?_
  refine gl_iconst C (q := 538) (x := 1) dL_law_537 (by decide) rfl ?_
  refine gl_iadd C (q := 539) dL_law_538 rfl ?_
  refine gl_sld C (q := 540) (j := i + 1) (by simp only [gn_lit, nI_add]) (by omega) hn dL_law_539 rfl ?_
  refine gl_aload_n C (q := 541) dL_law_540 rfl rfl ?_
  refine gl_iload_n C (q := 542) dL_law_541 rfl rfl ?_
  refine gl_iconst C (q := 543) (x := 2) dL_law_542 (by decide) rfl ?_
  refine gl_iadd C (q := 544) dL_law_543 rfl ?_
  refine gl_sld C (q := 545) (j := i + 2) (by simp only [gn_lit, nI_add]) (by omega) hn dL_law_544 rfl ?_
  refine gl_Vi C (q := 548) (p_X11_keeps hm hM1 hI) k_L_60 hm0 rfl (by decide) rfl rfl (Nat.le_of_ble_eq_true rfl) rfl rfl hkc hks dL_law_545 rfl ?_
  rintro z2 w2 ⟨hz2, hf2⟩
  obtain ⟨ez, hV2⟩ := cb_keeps hz1 hz2 hI hH hB
  have hV3 := hV2.keep (fun a g => hf2 a (by omega))
  exact gl_icmpeq C (t := 965) (q := 551) dL_law_548 (by decide) rfl (fun _ => hk _ hV3) (fun h => absurd ez h)

set_option maxRecDepth 100000 in
set_option maxHeartbeats 4000000 in
theorem law_lets {X : gj_X} {p : Program} {e : Env} {s : State} {m : MethodId} {below : List Frame} {meth : Method} {c : Code} {b nx lim : Nat} {xs : Nat → Int32} {σ : gj_H} {v : gj_V} {kc ks x i : Nat} (C : lw_C X p s m meth c b nx xs) (hn : nx ≤ 3072) (hi : i + 6 ≤ nx) (hkc : kc ≤ 600000) (hks : ks ≤ 7302250) (hs : gsh σ x) (hm : msh σ (x + 477)) (hV : LV (GR v x) (MG v (x + 477))) (hk : ∀ v' : gj_V, LV (GR v' x) (MG v' (x + 477)) → lw_G X p e s m below meth c b lim σ v' kc ks 965 [some (.ref b), some (.ref x), some (.ref (x + 477)), some (.int (nI i))] []) : lw_G X p e s m below meth c b lim σ v kc ks 553 [some (.ref b), some (.ref x), some (.ref (x + 477)), some (.int (nI i))] [] := by
  obtain ⟨A, t, l, tx, cc, hG, hM, ⟨n, sn, hI⟩, hH, hB⟩ := hV
  have hx0 := hs.1
  have hm0 := hm.1
  refine gl_aload_n C (q := 554) dL_law_553 rfl rfl ?_
  refine gl_aload_n C (q := 555) dL_law_554 rfl rfl ?_
  refine gl_iload_n C (q := 556) dL_law_555 rfl rfl ?_
  refine gl_iconst C (q := 557) (x := 1) dL_law_556 (by decide) rfl ?_
  refine gl_iadd C (q := 558) dL_law_557 rfl ?_
  refine gl_sld C (q := 559) (j := i + 1) (by simp only [gn_lit, nI_add]) (by omega) hn dL_law_558 rfl ?_
  refine gl_aload_n C (q := 560) dL_law_559 rfl rfl ?_
  refine gl_iload_n C (q := 561) dL_law_560 rfl rfl ?_
  refine gl_iconst C (q := 562) (x := 2) dL_law_561 (by decide) rfl ?_
  refine gl_iadd C (q := 563) dL_law_562 rfl ?_
  refine gl_sld C (q := 564) (j := i + 2) (by simp only [gn_lit, nI_add]) (by omega) hn dL_law_563 rfl ?_
  refine gl_Vi C (q := 567) (p_X10_lets hs hG hI) k_L_61 hx0 rfl (by decide) rfl rfl (Nat.le_of_ble_eq_true rfl) rfl rfl hkc hks dL_law_564 rfl ?_
  rintro z1 w1 ⟨hz1, hf1⟩
  have hM1 := hM.kp (v' := w1) (fun a g1 g2 => hf1 a (by omega))
  refine gl_aload_n C (q := 568) dL_law_567 rfl rfl ?_
  refine gl_aload_n C (q := 569) dL_law_568 rfl rfl ?_
  refine gl_iload_n C (q := 570) dL_law_569 rfl rfl ?_
  refine gl_iconst C (q := 571) (x := 1) dL_law_570 (by decide) rfl ?_
  refine gl_iadd C (q := 572) dL_law_571 rfl ?_
  refine gl_sld C (q := 573) (j := i + 1) (by simp only [gn_lit, nI_add]) (by omega) hn dL_law_572 rfl ?_
  refine gl_aload_n C (q := 574) dL_law_573 rfl rfl ?_
  refine gl_iload_n C (q := 575) dL_law_574 rfl rfl ?_
  refine gl_iconst C (q := 576) (x := 2) dL_law_575 (by decide) rfl ?_
  refine gl_iadd C (q := 577) dL_law_576 rfl ?_
  refine gl_sld C (q := 578) (j := i + 2) (by simp only [gn_lit, nI_add]) (by omega) hn dL_law_577 rfl ?_
  refine gl_Vi C (q := 581) (p_X11_lets hm hM1 hI) k_L_64 hm0 rfl (by decide) rfl rfl (Nat.le_of_ble_eq_true rfl) rfl rfl hkc hks dL_law_578 rfl ?_
  rintro z2 w2 ⟨hz2, hf2⟩
  obtain ⟨ez, hV2⟩ := cb_lets hz1 hz2 hI hH hB
  have hV3 := hV2.keep (fun a g => hf2 a (by omega))
  exact gl_icmpeq C (t := 965) (q := 584) dL_law_581 (by decide) rfl (fun _ => hk _ hV3) (fun h => absurd ez h)

set_option maxRecDepth 100000 in
set_option maxHeartbeats 4000000 in
theorem law_quits {X : gj_X} {p : Program} {e : Env} {s : State} {m : MethodId} {below : List Frame} {meth : Method} {c : Code} {b nx lim : Nat} {xs : Nat → Int32} {σ : gj_H} {v : gj_V} {kc ks x i : Nat} (C : lw_C X p s m meth c b nx xs) (hn : nx ≤ 3072) (hi : i + 6 ≤ nx) (hkc : kc ≤ 600000) (hks : ks ≤ 7302250) (hs : gsh σ x) (hm : msh σ (x + 477)) (hV : LV (GR v x) (MG v (x + 477))) (hk : ∀ v' : gj_V, LV (GR v' x) (MG v' (x + 477)) → lw_G X p e s m below meth c b lim σ v' kc ks 965 [some (.ref b), some (.ref x), some (.ref (x + 477)), some (.int (nI i))] []) : lw_G X p e s m below meth c b lim σ v kc ks 586 [some (.ref b), some (.ref x), some (.ref (x + 477)), some (.int (nI i))] [] := by
  obtain ⟨A, t, l, tx, cc, hG, hM, ⟨n, sn, hI⟩, hH, hB⟩ := hV
  have hx0 := hs.1
  have hm0 := hm.1
  refine gl_aload_n C (q := 587) dL_law_586 rfl rfl ?_
  refine gl_aload_n C (q := 588) dL_law_587 rfl rfl ?_
  refine gl_iload_n C (q := 589) dL_law_588 rfl rfl ?_
  refine gl_iconst C (q := 590) (x := 1) dL_law_589 (by decide) rfl ?_
  refine gl_iadd C (q := 591) dL_law_590 rfl ?_
  refine gl_sld C (q := 592) (j := i + 1) (by simp only [gn_lit, nI_add]) (by omega) hn dL_law_591 rfl ?_
  refine gl_Vi C (q := 595) (p_X10_quits hs hG hI) k_L_65 hx0 rfl (by decide) rfl rfl (Nat.le_of_ble_eq_true rfl) rfl rfl hkc hks dL_law_592 rfl ?_
  rintro z1 w1 ⟨hz1, hf1⟩
  have hM1 := hM.kp (v' := w1) (fun a g1 g2 => hf1 a (by omega))
  refine gl_aload_n C (q := 596) dL_law_595 rfl rfl ?_
  refine gl_aload_n C (q := 597) dL_law_596 rfl rfl ?_
  refine gl_iload_n C (q := 598) dL_law_597 rfl rfl ?_
  refine gl_iconst C (q := 599) (x := 1) dL_law_598 (by decide) rfl ?_
  refine gl_iadd C (q := 600) dL_law_599 rfl ?_
  refine gl_sld C (q := 601) (j := i + 1) (by simp only [gn_lit, nI_add]) (by omega) hn dL_law_600 rfl ?_
  refine gl_Vi C (q := 604) (p_X11_quits hm hM1 hI) k_L_68 hm0 rfl (by decide) rfl rfl (Nat.le_of_ble_eq_true rfl) rfl rfl hkc hks dL_law_601 rfl ?_
  rintro z2 w2 ⟨hz2, hf2⟩
  obtain ⟨ez, hV2⟩ := cb_quits hz1 hz2 hI hH hB
  have hV3 := hV2.keep (fun a g => hf2 a (by omega))
  exact gl_icmpeq C (t := 965) (q := 607) dL_law_604 (by decide) rfl (fun _ => hk _ hV3) (fun h => absurd ez h)

set_option maxRecDepth 100000 in
set_option maxHeartbeats 4000000 in
theorem law_keeper {X : gj_X} {p : Program} {e : Env} {s : State} {m : MethodId} {below : List Frame} {meth : Method} {c : Code} {b nx lim : Nat} {xs : Nat → Int32} {σ : gj_H} {v : gj_V} {kc ks x i : Nat} (C : lw_C X p s m meth c b nx xs) (hn : nx ≤ 3072) (hi : i + 6 ≤ nx) (hkc : kc ≤ 600000) (hks : ks ≤ 7302250) (hs : gsh σ x) (hm : msh σ (x + 477)) (hV : LV (GR v x) (MG v (x + 477))) (hk : ∀ v' : gj_V, LV (GR v' x) (MG v' (x + 477)) → lw_G X p e s m below meth c b lim σ v' kc ks 965 [some (.ref b), some (.ref x), some (.ref (x + 477)), some (.int (nI i))] []) : lw_G X p e s m below meth c b lim σ v kc ks 609 [some (.ref b), some (.ref x), some (.ref (x + 477)), some (.int (nI i))] [] := by
  obtain ⟨A, t, l, tx, cc, hG, hM, ⟨n, sn, hI⟩, hH, hB⟩ := hV
  have hx0 := hs.1
  have hm0 := hm.1
  refine gl_aload_n C (q := 610) dL_law_609 rfl rfl ?_
  refine gl_aload_n C (q := 611) dL_law_610 rfl rfl ?_
  refine gl_iload_n C (q := 612) dL_law_611 rfl rfl ?_
  refine gl_iconst C (q := 613) (x := 1) dL_law_612 (by decide) rfl ?_
  refine gl_iadd C (q := 614) dL_law_613 rfl ?_
  refine gl_sld C (q := 615) (j := i + 1) (by simp only [gn_lit, nI_add]) (by omega) hn dL_law_614 rfl ?_
  refine gl_aload_n C (q := 616) dL_law_615 rfl rfl ?_
  refine gl_iload_n C (q := 617) dL_law_616 rfl rfl ?_
  refine gl_iconst C (q := 618) (x := 2) dL_law_617 (by decide) rfl ?_
  refine gl_iadd C (q := 619) dL_law_618 rfl ?_
  refine gl_sld C (q := 620) (j := i + 2) (by simp only [gn_lit, nI_add]) (by omega) hn dL_law_619 rfl ?_
  refine gl_Vi C (q := 623) (p_X10_keeper hs hG hI) k_L_69 hx0 rfl (by decide) rfl rfl (Nat.le_of_ble_eq_true rfl) rfl rfl hkc hks dL_law_620 rfl ?_
  rintro z1 w1 ⟨hz1, hf1⟩
  have hM1 := hM.kp (v' := w1) (fun a g1 g2 => hf1 a (by omega))
  refine gl_aload_n C (q := 624) dL_law_623 rfl rfl ?_
  refine gl_aload_n C (q := 625) dL_law_624 rfl rfl ?_
  refine gl_iload_n C (q := 626) dL_law_625 rfl rfl ?_
  refine gl_iconst C (q := 627) (x := 1) dL_law_626 (by decide) rfl ?_
  refine gl_iadd C (q := 628) dL_law_627 rfl ?_
  refine gl_sld C (q := 629) (j := i + 1) (by simp only [gn_lit, nI_add]) (by omega) hn dL_law_628 rfl ?_
  refine gl_aload_n C (q := 630) dL_law_629 rfl rfl ?_
  refine gl_iload_n C (q := 631) dL_law_630 rfl rfl ?_
  refine gl_iconst C (q := 632) (x := 2) dL_law_631 (by decide) rfl ?_
  refine gl_iadd C (q := 633) dL_law_632 rfl ?_
  refine gl_sld C (q := 634) (j := i + 2) (by simp only [gn_lit, nI_add]) (by omega) hn dL_law_633 rfl ?_
  refine gl_Vi C (q := 637) (p_X11_keeper hm hM1 hI) k_L_72 hm0 rfl (by decide) rfl rfl (Nat.le_of_ble_eq_true rfl) rfl rfl hkc hks dL_law_634 rfl ?_
  rintro z2 w2 ⟨hz2, hf2⟩
  obtain ⟨ez, hV2⟩ := cb_rd hz1 hz2 hI hH hB
  have hV3 := hV2.keep (fun a g => hf2 a (by omega))
  exact gl_icmpeq C (t := 965) (q := 640) dL_law_637 (by decide) rfl (fun _ => hk _ hV3) (fun h => absurd ez h)

set_option maxRecDepth 100000 in
set_option maxHeartbeats 4000000 in
theorem law_queue {X : gj_X} {p : Program} {e : Env} {s : State} {m : MethodId} {below : List Frame} {meth : Method} {c : Code} {b nx lim : Nat} {xs : Nat → Int32} {σ : gj_H} {v : gj_V} {kc ks x i : Nat} (C : lw_C X p s m meth c b nx xs) (hn : nx ≤ 3072) (hi : i + 6 ≤ nx) (hkc : kc ≤ 600000) (hks : ks ≤ 7302250) (hs : gsh σ x) (hm : msh σ (x + 477)) (hV : LV (GR v x) (MG v (x + 477))) (hk : ∀ v' : gj_V, LV (GR v' x) (MG v' (x + 477)) → lw_G X p e s m below meth c b lim σ v' kc ks 965 [some (.ref b), some (.ref x), some (.ref (x + 477)), some (.int (nI i))] []) : lw_G X p e s m below meth c b lim σ v kc ks 642 [some (.ref b), some (.ref x), some (.ref (x + 477)), some (.int (nI i))] [] := by
  obtain ⟨A, t, l, tx, cc, hG, hM, ⟨n, sn, hI⟩, hH, hB⟩ := hV
  have hx0 := hs.1
  have hm0 := hm.1
  refine gl_aload_n C (q := 643) dL_law_642 rfl rfl ?_
  refine gl_aload_n C (q := 644) dL_law_643 rfl rfl ?_
  refine gl_iload_n C (q := 645) dL_law_644 rfl rfl ?_
  refine gl_iconst C (q := 646) (x := 1) dL_law_645 (by decide) rfl ?_
  refine gl_iadd C (q := 647) dL_law_646 rfl ?_
  refine gl_sld C (q := 648) (j := i + 1) (by simp only [gn_lit, nI_add]) (by omega) hn dL_law_647 rfl ?_
  refine gl_aload_n C (q := 649) dL_law_648 rfl rfl ?_
  refine gl_iload_n C (q := 650) dL_law_649 rfl rfl ?_
  refine gl_iconst C (q := 651) (x := 2) dL_law_650 (by decide) rfl ?_
  refine gl_iadd C (q := 652) dL_law_651 rfl ?_
  refine gl_sld C (q := 653) (j := i + 2) (by simp only [gn_lit, nI_add]) (by omega) hn dL_law_652 rfl ?_
  refine gl_Vi C (q := 656) (p_X10_queue hs hG hI) k_L_73 hx0 rfl (by decide) rfl rfl (Nat.le_of_ble_eq_true rfl) rfl rfl hkc hks dL_law_653 rfl ?_
  rintro z1 w1 ⟨hz1, hf1⟩
  have hM1 := hM.kp (v' := w1) (fun a g1 g2 => hf1 a (by omega))
  refine gl_aload_n C (q := 657) dL_law_656 rfl rfl ?_
  refine gl_aload_n C (q := 658) dL_law_657 rfl rfl ?_
  refine gl_iload_n C (q := 659) dL_law_658 rfl rfl ?_
  refine gl_iconst C (q := 660) (x := 1) dL_law_659 (by decide) rfl ?_
  refine gl_iadd C (q := 661) dL_law_660 rfl ?_
  refine gl_sld C (q := 662) (j := i + 1) (by simp only [gn_lit, nI_add]) (by omega) hn dL_law_661 rfl ?_
  refine gl_aload_n C (q := 663) dL_law_662 rfl rfl ?_
  refine gl_iload_n C (q := 664) dL_law_663 rfl rfl ?_
  refine gl_iconst C (q := 665) (x := 2) dL_law_664 (by decide) rfl ?_
  refine gl_iadd C (q := 666) dL_law_665 rfl ?_
  refine gl_sld C (q := 667) (j := i + 2) (by simp only [gn_lit, nI_add]) (by omega) hn dL_law_666 rfl ?_
  refine gl_Vi C (q := 670) (p_X11_queue hm hM1 hI) k_L_76 hm0 rfl (by decide) rfl rfl (Nat.le_of_ble_eq_true rfl) rfl rfl hkc hks dL_law_667 rfl ?_
  rintro z2 w2 ⟨hz2, hf2⟩
  obtain ⟨ez, hV2⟩ := cb_rd hz1 hz2 hI hH hB
  have hV3 := hV2.keep (fun a g => hf2 a (by omega))
  exact gl_icmpeq C (t := 965) (q := 673) dL_law_670 (by decide) rfl (fun _ => hk _ hV3) (fun h => absurd ez h)

set_option maxRecDepth 100000 in
set_option maxHeartbeats 4000000 in
theorem law_stuck {X : gj_X} {p : Program} {e : Env} {s : State} {m : MethodId} {below : List Frame} {meth : Method} {c : Code} {b nx lim : Nat} {xs : Nat → Int32} {σ : gj_H} {v : gj_V} {kc ks x i : Nat} (C : lw_C X p s m meth c b nx xs) (hn : nx ≤ 3072) (hi : i + 6 ≤ nx) (hkc : kc ≤ 600000) (hks : ks ≤ 7302250) (hs : gsh σ x) (hm : msh σ (x + 477)) (hV : LV (GR v x) (MG v (x + 477))) (hk : ∀ v' : gj_V, LV (GR v' x) (MG v' (x + 477)) → lw_G X p e s m below meth c b lim σ v' kc ks 965 [some (.ref b), some (.ref x), some (.ref (x + 477)), some (.int (nI i))] []) : lw_G X p e s m below meth c b lim σ v kc ks 675 [some (.ref b), some (.ref x), some (.ref (x + 477)), some (.int (nI i))] [] := by
  obtain ⟨A, t, l, tx, cc, hG, hM, ⟨n, sn, hI⟩, hH, hB⟩ := hV
  have hx0 := hs.1
  have hm0 := hm.1
  refine gl_aload_n C (q := 676) dL_law_675 rfl rfl ?_
  refine gl_Vi C (q := 679) (p_X10_stuck hs hG hI) k_L_77 hx0 rfl (by decide) rfl rfl (Nat.le_of_ble_eq_true rfl) rfl rfl hkc hks dL_law_676 rfl ?_
  rintro z1 w1 ⟨hz1, hf1⟩
  have hM1 := hM.kp (v' := w1) (fun a g1 g2 => hf1 a (by omega))
  refine gl_aload_n C (q := 680) dL_law_679 rfl rfl ?_
  refine gl_Vi C (q := 683) (p_X11_stuck hm hM1 hI) k_L_81 hm0 rfl (by decide) rfl rfl (Nat.le_of_ble_eq_true rfl) rfl rfl hkc hks dL_law_680 rfl ?_
  rintro z2 w2 ⟨hz2, hf2⟩
  obtain ⟨ez, hV2⟩ := cb_rd hz1 hz2 hI hH hB
  have hV3 := hV2.keep (fun a g => hf2 a (by omega))
  exact gl_icmpeq C (t := 965) (q := 686) dL_law_683 (by decide) rfl (fun _ => hk _ hV3) (fun h => absurd ez h)

set_option maxRecDepth 100000 in
set_option maxHeartbeats 4000000 in
theorem law_buffer {X : gj_X} {p : Program} {e : Env} {s : State} {m : MethodId} {below : List Frame} {meth : Method} {c : Code} {b nx lim : Nat} {xs : Nat → Int32} {σ : gj_H} {v : gj_V} {kc ks x i : Nat} (C : lw_C X p s m meth c b nx xs) (hn : nx ≤ 3072) (hi : i + 6 ≤ nx) (hkc : kc ≤ 600000) (hks : ks ≤ 7302250) (hs : gsh σ x) (hm : msh σ (x + 477)) (hV : LV (GR v x) (MG v (x + 477))) (hk : ∀ v' : gj_V, LV (GR v' x) (MG v' (x + 477)) → lw_G X p e s m below meth c b lim σ v' kc ks 965 [some (.ref b), some (.ref x), some (.ref (x + 477)), some (.int (nI i))] []) : lw_G X p e s m below meth c b lim σ v kc ks 688 [some (.ref b), some (.ref x), some (.ref (x + 477)), some (.int (nI i))] [] := by
  obtain ⟨A, t, l, tx, cc, hG, hM, ⟨n, sn, hI⟩, hH, hB⟩ := hV
  have hx0 := hs.1
  have hm0 := hm.1
  refine gl_aload_n C (q := 689) dL_law_688 rfl rfl ?_
  refine gl_aload_n C (q := 690) dL_law_689 rfl rfl ?_
  refine gl_iload_n C (q := 691) dL_law_690 rfl rfl ?_
  refine gl_iconst C (q := 692) (x := 1) dL_law_691 (by decide) rfl ?_
  refine gl_iadd C (q := 693) dL_law_692 rfl ?_
  refine gl_sld C (q := 694) (j := i + 1) (by simp only [gn_lit, nI_add]) (by omega) hn dL_law_693 rfl ?_
  refine gl_aload_n C (q := 695) dL_law_694 rfl rfl ?_
  refine gl_iload_n C (q := 696) dL_law_695 rfl rfl ?_
  refine gl_iconst C (q := 697) (x := 2) dL_law_696 (by decide) rfl ?_
  refine gl_iadd C (q := 698) dL_law_697 rfl ?_
  refine gl_sld C (q := 699) (j := i + 2) (by simp only [gn_lit, nI_add]) (by omega) hn dL_law_698 rfl ?_
  refine gl_Vi C (q := 702) (p_X10_buffer hs hG hI) k_L_82 hx0 rfl (by decide) rfl rfl (Nat.le_of_ble_eq_true rfl) rfl rfl hkc hks dL_law_699 rfl ?_
  rintro z1 w1 ⟨hz1, hf1⟩
  have hM1 := hM.kp (v' := w1) (fun a g1 g2 => hf1 a (by omega))
  refine gl_aload_n C (q := 703) dL_law_702 rfl rfl ?_
  refine gl_aload_n C (q := 704) dL_law_703 rfl rfl ?_
  refine gl_iload_n C (q := 705) dL_law_704 rfl rfl ?_
  refine gl_iconst C (q := 706) (x := 1) dL_law_705 (by decide) rfl ?_
  refine gl_iadd C (q := 707) dL_law_706 rfl ?_
  refine gl_sld C (q := 708) (j := i + 1) (by simp only [gn_lit, nI_add]) (by omega) hn dL_law_707 rfl ?_
  refine gl_aload_n C (q := 709) dL_law_708 rfl rfl ?_
  refine gl_iload_n C (q := 710) dL_law_709 rfl rfl ?_
  refine gl_iconst C (q := 711) (x := 2) dL_law_710 (by decide) rfl ?_
  refine gl_iadd C (q := 712) dL_law_711 rfl ?_
  refine gl_sld C (q := 713) (j := i + 2) (by simp only [gn_lit, nI_add]) (by omega) hn dL_law_712 rfl ?_
  refine gl_Vi C (q := 716) (p_X11_buffer hm hM1 hI) k_L_85 hm0 rfl (by decide) rfl rfl (Nat.le_of_ble_eq_true rfl) rfl rfl hkc hks dL_law_713 rfl ?_
  rintro z2 w2 ⟨hz2, hf2⟩
  obtain ⟨ez, hV2⟩ := cb_rd hz1 hz2 hI hH hB
  have hV3 := hV2.keep (fun a g => hf2 a (by omega))
  exact gl_icmpeq C (t := 965) (q := 719) dL_law_716 (by decide) rfl (fun _ => hk _ hV3) (fun h => absurd ez h)

set_option maxRecDepth 100000 in
set_option maxHeartbeats 4000000 in
theorem law_item {X : gj_X} {p : Program} {e : Env} {s : State} {m : MethodId} {below : List Frame} {meth : Method} {c : Code} {b nx lim : Nat} {xs : Nat → Int32} {σ : gj_H} {v : gj_V} {kc ks x i : Nat} (C : lw_C X p s m meth c b nx xs) (hn : nx ≤ 3072) (hi : i + 6 ≤ nx) (hkc : kc ≤ 600000) (hks : ks ≤ 7302250) (hs : gsh σ x) (hm : msh σ (x + 477)) (hV : LV (GR v x) (MG v (x + 477))) (hk : ∀ v' : gj_V, LV (GR v' x) (MG v' (x + 477)) → lw_G X p e s m below meth c b lim σ v' kc ks 965 [some (.ref b), some (.ref x), some (.ref (x + 477)), some (.int (nI i))] []) : lw_G X p e s m below meth c b lim σ v kc ks 721 [some (.ref b), some (.ref x), some (.ref (x + 477)), some (.int (nI i))] [] := by
  obtain ⟨A, t, l, tx, cc, hG, hM, ⟨n, sn, hI⟩, hH, hB⟩ := hV
  have hx0 := hs.1
  have hm0 := hm.1
  refine gl_aload_n C (q := 722) dL_law_721 rfl rfl ?_
  refine gl_aload_n C (q := 723) dL_law_722 rfl rfl ?_
  refine gl_iload_n C (q := 724) dL_law_723 rfl rfl ?_
  refine gl_iconst C (q := 725) (x := 1) dL_law_724 (by decide) rfl ?_
  refine gl_iadd C (q := 726) dL_law_725 rfl ?_
  refine gl_sld C (q := 727) (j := i + 1) (by simp only [gn_lit, nI_add]) (by omega) hn dL_law_726 rfl ?_
  refine gl_aload_n C (q := 728) dL_law_727 rfl rfl ?_
  refine gl_iload_n C (q := 729) dL_law_728 rfl rfl ?_
  refine gl_iconst C (q := 730) (x := 2) dL_law_729 (by decide) rfl ?_
  refine gl_iadd C (q := 731) dL_law_730 rfl ?_
  refine gl_sld C (q := 732) (j := i + 2) (by simp only [gn_lit, nI_add]) (by omega) hn dL_law_731 rfl ?_
  refine gl_Vi C (q := 735) (p_X10_item hs hG hI) k_L_86 hx0 rfl (by decide) rfl rfl (Nat.le_of_ble_eq_true rfl) rfl rfl hkc hks dL_law_732 rfl ?_
  rintro z1 w1 ⟨hz1, hf1⟩
  have hM1 := hM.kp (v' := w1) (fun a g1 g2 => hf1 a (by omega))
  refine gl_aload_n C (q := 736) dL_law_735 rfl rfl ?_
  refine gl_aload_n C (q := 737) dL_law_736 rfl rfl ?_
  refine gl_iload_n C (q := 738) dL_law_737 rfl rfl ?_
  refine gl_iconst C (q := 739) (x := 1) dL_law_738 (by decide) rfl ?_
  refine gl_iadd C (q := 740) dL_law_739 rfl ?_
  refine gl_sld C (q := 741) (j := i + 1) (by simp only [gn_lit, nI_add]) (by omega) hn dL_law_740 rfl ?_
  refine gl_aload_n C (q := 742) dL_law_741 rfl rfl ?_
  refine gl_iload_n C (q := 743) dL_law_742 rfl rfl ?_
  refine gl_iconst C (q := 744) (x := 2) dL_law_743 (by decide) rfl ?_
  refine gl_iadd C (q := 745) dL_law_744 rfl ?_
  refine gl_sld C (q := 746) (j := i + 2) (by simp only [gn_lit, nI_add]) (by omega) hn dL_law_745 rfl ?_
  refine gl_Vi C (q := 749) (p_X11_item hm hM1 hI) k_L_89 hm0 rfl (by decide) rfl rfl (Nat.le_of_ble_eq_true rfl) rfl rfl hkc hks dL_law_746 rfl ?_
  rintro z2 w2 ⟨hz2, hf2⟩
  obtain ⟨ez, hV2⟩ := cb_rd hz1 hz2 hI hH hB
  have hV3 := hV2.keep (fun a g => hf2 a (by omega))
  exact gl_icmpeq C (t := 965) (q := 752) dL_law_749 (by decide) rfl (fun _ => hk _ hV3) (fun h => absurd ez h)

set_option maxRecDepth 100000 in
set_option maxHeartbeats 4000000 in
theorem law_of {X : gj_X} {p : Program} {e : Env} {s : State} {m : MethodId} {below : List Frame} {meth : Method} {c : Code} {b nx lim : Nat} {xs : Nat → Int32} {σ : gj_H} {v : gj_V} {kc ks x i : Nat} (C : lw_C X p s m meth c b nx xs) (hn : nx ≤ 3072) (hi : i + 6 ≤ nx) (hkc : kc ≤ 600000) (hks : ks ≤ 7302250) (hs : gsh σ x) (hm : msh σ (x + 477)) (hV : LV (GR v x) (MG v (x + 477))) (hk : ∀ v' : gj_V, LV (GR v' x) (MG v' (x + 477)) → lw_G X p e s m below meth c b lim σ v' kc ks 965 [some (.ref b), some (.ref x), some (.ref (x + 477)), some (.int (nI i))] []) : lw_G X p e s m below meth c b lim σ v kc ks 754 [some (.ref b), some (.ref x), some (.ref (x + 477)), some (.int (nI i))] [] := by
  obtain ⟨A, t, l, tx, cc, hG, hM, ⟨n, sn, hI⟩, hH, hB⟩ := hV
  have hx0 := hs.1
  have hm0 := hm.1
  refine gl_aload_n C (q := 755) dL_law_754 rfl rfl ?_
  refine gl_aload_n C (q := 756) dL_law_755 rfl rfl ?_
  refine gl_iload_n C (q := 757) dL_law_756 rfl rfl ?_
  refine gl_iconst C (q := 758) (x := 1) dL_law_757 (by decide) rfl ?_
  refine gl_iadd C (q := 759) dL_law_758 rfl ?_
  refine gl_sld C (q := 760) (j := i + 1) (by simp only [gn_lit, nI_add]) (by omega) hn dL_law_759 rfl ?_
  refine gl_aload_n C (q := 761) dL_law_760 rfl rfl ?_
  refine gl_iload_n C (q := 762) dL_law_761 rfl rfl ?_
  refine gl_iconst C (q := 763) (x := 2) dL_law_762 (by decide) rfl ?_
  refine gl_iadd C (q := 764) dL_law_763 rfl ?_
  refine gl_sld C (q := 765) (j := i + 2) (by simp only [gn_lit, nI_add]) (by omega) hn dL_law_764 rfl ?_
  refine gl_Vi C (q := 768) (p_X10_of hs hG hI) k_L_90 hx0 rfl (by decide) rfl rfl (Nat.le_of_ble_eq_true rfl) rfl rfl hkc hks dL_law_765 rfl ?_
  rintro z1 w1 ⟨hz1, hf1⟩
  have hM1 := hM.kp (v' := w1) (fun a g1 g2 => hf1 a (by omega))
  refine gl_aload_n C (q := 769) dL_law_768 rfl rfl ?_
  refine gl_aload_n C (q := 770) dL_law_769 rfl rfl ?_
  refine gl_iload_n C (q := 771) dL_law_770 rfl rfl ?_
  refine gl_iconst C (q := 772) (x := 1) dL_law_771 (by decide) rfl ?_
  refine gl_iadd C (q := 773) dL_law_772 rfl ?_
  refine gl_sld C (q := 774) (j := i + 1) (by simp only [gn_lit, nI_add]) (by omega) hn dL_law_773 rfl ?_
  refine gl_aload_n C (q := 775) dL_law_774 rfl rfl ?_
  refine gl_iload_n C (q := 776) dL_law_775 rfl rfl ?_
  refine gl_iconst C (q := 777) (x := 2) dL_law_776 (by decide) rfl ?_
  refine gl_iadd C (q := 778) dL_law_777 rfl ?_
  refine gl_sld C (q := 779) (j := i + 2) (by simp only [gn_lit, nI_add]) (by omega) hn dL_law_778 rfl ?_
  refine gl_Vi C (q := 782) (p_X11_of hm hM1 hI) k_L_93 hm0 rfl (by decide) rfl rfl (Nat.le_of_ble_eq_true rfl) rfl rfl hkc hks dL_law_779 rfl ?_
  rintro z2 w2 ⟨hz2, hf2⟩
  obtain ⟨ez, hV2⟩ := cb_rd hz1 hz2 hI hH hB
  have hV3 := hV2.keep (fun a g => hf2 a (by omega))
  exact gl_icmpeq C (t := 965) (q := 785) dL_law_782 (by decide) rfl (fun _ => hk _ hV3) (fun h => absurd ez h)

set_option maxRecDepth 100000 in
set_option maxHeartbeats 4000000 in
theorem law_worker {X : gj_X} {p : Program} {e : Env} {s : State} {m : MethodId} {below : List Frame} {meth : Method} {c : Code} {b nx lim : Nat} {xs : Nat → Int32} {σ : gj_H} {v : gj_V} {kc ks x i : Nat} (C : lw_C X p s m meth c b nx xs) (hn : nx ≤ 3072) (hi : i + 6 ≤ nx) (hkc : kc ≤ 600000) (hks : ks ≤ 7302250) (hs : gsh σ x) (hm : msh σ (x + 477)) (hV : LV (GR v x) (MG v (x + 477))) (hk : ∀ v' : gj_V, LV (GR v' x) (MG v' (x + 477)) → lw_G X p e s m below meth c b lim σ v' kc ks 965 [some (.ref b), some (.ref x), some (.ref (x + 477)), some (.int (nI i))] []) : lw_G X p e s m below meth c b lim σ v kc ks 787 [some (.ref b), some (.ref x), some (.ref (x + 477)), some (.int (nI i))] [] := by
  obtain ⟨A, t, l, tx, cc, hG, hM, ⟨n, sn, hI⟩, hH, hB⟩ := hV
  have hx0 := hs.1
  have hm0 := hm.1
  refine gl_aload_n C (q := 788) dL_law_787 rfl rfl ?_
  refine gl_aload_n C (q := 789) dL_law_788 rfl rfl ?_
  refine gl_iload_n C (q := 790) dL_law_789 rfl rfl ?_
  refine gl_iconst C (q := 791) (x := 1) dL_law_790 (by decide) rfl ?_
  refine gl_iadd C (q := 792) dL_law_791 rfl ?_
  refine gl_sld C (q := 793) (j := i + 1) (by simp only [gn_lit, nI_add]) (by omega) hn dL_law_792 rfl ?_
  refine gl_aload_n C (q := 794) dL_law_793 rfl rfl ?_
  refine gl_iload_n C (q := 795) dL_law_794 rfl rfl ?_
  refine gl_iconst C (q := 796) (x := 2) dL_law_795 (by decide) rfl ?_
  refine gl_iadd C (q := 797) dL_law_796 rfl ?_
  refine gl_sld C (q := 798) (j := i + 2) (by simp only [gn_lit, nI_add]) (by omega) hn dL_law_797 rfl ?_
  refine gl_Vi C (q := 801) (p_X10_worker hs hG hI) k_L_94 hx0 rfl (by decide) rfl rfl (Nat.le_of_ble_eq_true rfl) rfl rfl hkc hks dL_law_798 rfl ?_
  rintro z1 w1 ⟨hz1, hf1⟩
  have hM1 := hM.kp (v' := w1) (fun a g1 g2 => hf1 a (by omega))
  refine gl_aload_n C (q := 802) dL_law_801 rfl rfl ?_
  refine gl_aload_n C (q := 803) dL_law_802 rfl rfl ?_
  refine gl_iload_n C (q := 804) dL_law_803 rfl rfl ?_
  refine gl_iconst C (q := 805) (x := 1) dL_law_804 (by decide) rfl ?_
  refine gl_iadd C (q := 806) dL_law_805 rfl ?_
  refine gl_sld C (q := 807) (j := i + 1) (by simp only [gn_lit, nI_add]) (by omega) hn dL_law_806 rfl ?_
  refine gl_aload_n C (q := 808) dL_law_807 rfl rfl ?_
  refine gl_iload_n C (q := 809) dL_law_808 rfl rfl ?_
  refine gl_iconst C (q := 810) (x := 2) dL_law_809 (by decide) rfl ?_
  refine gl_iadd C (q := 811) dL_law_810 rfl ?_
  refine gl_sld C (q := 812) (j := i + 2) (by simp only [gn_lit, nI_add]) (by omega) hn dL_law_811 rfl ?_
  refine gl_Vi C (q := 815) (p_X11_worker hm hM1 hI) k_L_97 hm0 rfl (by decide) rfl rfl (Nat.le_of_ble_eq_true rfl) rfl rfl hkc hks dL_law_812 rfl ?_
  rintro z2 w2 ⟨hz2, hf2⟩
  obtain ⟨ez, hV2⟩ := cb_rd hz1 hz2 hI hH hB
  have hV3 := hV2.keep (fun a g => hf2 a (by omega))
  exact gl_icmpeq C (t := 965) (q := 818) dL_law_815 (by decide) rfl (fun _ => hk _ hV3) (fun h => absurd ez h)

set_option maxRecDepth 100000 in
set_option maxHeartbeats 4000000 in
theorem law_line {X : gj_X} {p : Program} {e : Env} {s : State} {m : MethodId} {below : List Frame} {meth : Method} {c : Code} {b nx lim : Nat} {xs : Nat → Int32} {σ : gj_H} {v : gj_V} {kc ks x i : Nat} (C : lw_C X p s m meth c b nx xs) (hn : nx ≤ 3072) (hi : i + 6 ≤ nx) (hkc : kc ≤ 600000) (hks : ks ≤ 7302250) (hs : gsh σ x) (hm : msh σ (x + 477)) (hV : LV (GR v x) (MG v (x + 477))) (hk : ∀ v' : gj_V, LV (GR v' x) (MG v' (x + 477)) → lw_G X p e s m below meth c b lim σ v' kc ks 965 [some (.ref b), some (.ref x), some (.ref (x + 477)), some (.int (nI i))] []) : lw_G X p e s m below meth c b lim σ v kc ks 820 [some (.ref b), some (.ref x), some (.ref (x + 477)), some (.int (nI i))] [] := by
  obtain ⟨A, t, l, tx, cc, hG, hM, ⟨n, sn, hI⟩, hH, hB⟩ := hV
  have hx0 := hs.1
  have hm0 := hm.1
  refine gl_aload_n C (q := 821) dL_law_820 rfl rfl ?_
  refine gl_aload_n C (q := 822) dL_law_821 rfl rfl ?_
  refine gl_iload_n C (q := 823) dL_law_822 rfl rfl ?_
  refine gl_iconst C (q := 824) (x := 1) dL_law_823 (by decide) rfl ?_
  refine gl_iadd C (q := 825) dL_law_824 rfl ?_
  refine gl_sld C (q := 826) (j := i + 1) (by simp only [gn_lit, nI_add]) (by omega) hn dL_law_825 rfl ?_
  refine gl_Vi C (q := 829) (p_X10_line hs hG hI) k_L_98 hx0 rfl (by decide) rfl rfl (Nat.le_of_ble_eq_true rfl) rfl rfl hkc hks dL_law_826 rfl ?_
  rintro z1 w1 ⟨hz1, hf1⟩
  have hM1 := hM.kp (v' := w1) (fun a g1 g2 => hf1 a (by omega))
  refine gl_aload_n C (q := 830) dL_law_829 rfl rfl ?_
  refine gl_aload_n C (q := 831) dL_law_830 rfl rfl ?_
  refine gl_iload_n C (q := 832) dL_law_831 rfl rfl ?_
  refine gl_iconst C (q := 833) (x := 1) dL_law_832 (by decide) rfl ?_
  refine gl_iadd C (q := 834) dL_law_833 rfl ?_
  refine gl_sld C (q := 835) (j := i + 1) (by simp only [gn_lit, nI_add]) (by omega) hn dL_law_834 rfl ?_
  refine gl_Vi C (q := 838) (p_X11_line hm hM1 hI) k_L_101 hm0 rfl (by decide) rfl rfl (Nat.le_of_ble_eq_true rfl) rfl rfl hkc hks dL_law_835 rfl ?_
  rintro z2 w2 ⟨hz2, hf2⟩
  obtain ⟨ez, hV2⟩ := cb_rd hz1 hz2 hI hH hB
  have hV3 := hV2.keep (fun a g => hf2 a (by omega))
  exact gl_icmpeq C (t := 965) (q := 841) dL_law_838 (by decide) rfl (fun _ => hk _ hV3) (fun h => absurd ez h)

set_option maxRecDepth 100000 in
set_option maxHeartbeats 4000000 in
theorem law_works {X : gj_X} {p : Program} {e : Env} {s : State} {m : MethodId} {below : List Frame} {meth : Method} {c : Code} {b nx lim : Nat} {xs : Nat → Int32} {σ : gj_H} {v : gj_V} {kc ks x i : Nat} (C : lw_C X p s m meth c b nx xs) (hn : nx ≤ 3072) (hi : i + 6 ≤ nx) (hkc : kc ≤ 600000) (hks : ks ≤ 7302250) (hs : gsh σ x) (hm : msh σ (x + 477)) (hV : LV (GR v x) (MG v (x + 477))) (hk : ∀ v' : gj_V, LV (GR v' x) (MG v' (x + 477)) → lw_G X p e s m below meth c b lim σ v' kc ks 965 [some (.ref b), some (.ref x), some (.ref (x + 477)), some (.int (nI i))] []) : lw_G X p e s m below meth c b lim σ v kc ks 843 [some (.ref b), some (.ref x), some (.ref (x + 477)), some (.int (nI i))] [] := by
  obtain ⟨A, t, l, tx, cc, hG, hM, ⟨n, sn, hI⟩, hH, hB⟩ := hV
  have hx0 := hs.1
  have hm0 := hm.1
  refine gl_aload_n C (q := 844) dL_law_843 rfl rfl ?_
  refine gl_aload_n C (q := 845) dL_law_844 rfl rfl ?_
  refine gl_iload_n C (q := 846) dL_law_845 rfl rfl ?_
  refine gl_iconst C (q := 847) (x := 1) dL_law_846 (by decide) rfl ?_
  refine gl_iadd C (q := 848) dL_law_847 rfl ?_
  refine gl_sld C (q := 849) (j := i + 1) (by simp only [gn_lit, nI_add]) (by omega) hn dL_law_848 rfl ?_
  refine gl_Vi C (q := 852) (p_X10_works hs hG hI) k_L_102 hx0 rfl (by decide) rfl rfl (Nat.le_of_ble_eq_true rfl) rfl rfl hkc hks dL_law_849 rfl ?_
  rintro z1 w1 ⟨hz1, hf1⟩
  have hM1 := hM.kp (v' := w1) (fun a g1 g2 => hf1 a (by omega))
  refine gl_aload_n C (q := 853) dL_law_852 rfl rfl ?_
  refine gl_aload_n C (q := 854) dL_law_853 rfl rfl ?_
  refine gl_iload_n C (q := 855) dL_law_854 rfl rfl ?_
  refine gl_iconst C (q := 856) (x := 1) dL_law_855 (by decide) rfl ?_
  refine gl_iadd C (q := 857) dL_law_856 rfl ?_
  refine gl_sld C (q := 858) (j := i + 1) (by simp only [gn_lit, nI_add]) (by omega) hn dL_law_857 rfl ?_
  refine gl_Vi C (q := 861) (p_X11_works hm hM1 hI) k_L_105 hm0 rfl (by decide) rfl rfl (Nat.le_of_ble_eq_true rfl) rfl rfl hkc hks dL_law_858 rfl ?_
  rintro z2 w2 ⟨hz2, hf2⟩
  obtain ⟨ez, hV2⟩ := cb_rd hz1 hz2 hI hH hB
  have hV3 := hV2.keep (fun a g => hf2 a (by omega))
  exact gl_icmpeq C (t := 965) (q := 864) dL_law_861 (by decide) rfl (fun _ => hk _ hV3) (fun h => absurd ez h)

set_option maxRecDepth 100000 in
set_option maxHeartbeats 4000000 in
theorem law_type {X : gj_X} {p : Program} {e : Env} {s : State} {m : MethodId} {below : List Frame} {meth : Method} {c : Code} {b nx lim : Nat} {xs : Nat → Int32} {σ : gj_H} {v : gj_V} {kc ks x i : Nat} (C : lw_C X p s m meth c b nx xs) (hn : nx ≤ 3072) (hi : i + 6 ≤ nx) (hkc : kc ≤ 600000) (hks : ks ≤ 7302250) (hs : gsh σ x) (hm : msh σ (x + 477)) (hV : LV (GR v x) (MG v (x + 477))) (hk : ∀ v' : gj_V, LV (GR v' x) (MG v' (x + 477)) → lw_G X p e s m below meth c b lim σ v' kc ks 965 [some (.ref b), some (.ref x), some (.ref (x + 477)), some (.int (nI i))] []) : lw_G X p e s m below meth c b lim σ v kc ks 866 [some (.ref b), some (.ref x), some (.ref (x + 477)), some (.int (nI i))] [] := by
  obtain ⟨A, t, l, tx, cc, hG, hM, ⟨n, sn, hI⟩, hH, hB⟩ := hV
  have hx0 := hs.1
  have hm0 := hm.1
  refine gl_aload_n C (q := 867) dL_law_866 rfl rfl ?_
  refine gl_aload_n C (q := 868) dL_law_867 rfl rfl ?_
  refine gl_iload_n C (q := 869) dL_law_868 rfl rfl ?_
  refine gl_iconst C (q := 870) (x := 1) dL_law_869 (by decide) rfl ?_
  refine gl_iadd C (q := 871) dL_law_870 rfl ?_
  refine gl_sld C (q := 872) (j := i + 1) (by simp only [gn_lit, nI_add]) (by omega) hn dL_law_871 rfl ?_
  refine gl_Vi C (q := 875) (p_X10_type hs hG hI) k_L_106 hx0 rfl (by decide) rfl rfl (Nat.le_of_ble_eq_true rfl) rfl rfl hkc hks dL_law_872 rfl ?_
  rintro z1 w1 ⟨hz1, hf1⟩
  have hM1 := hM.kp (v' := w1) (fun a g1 g2 => hf1 a (by omega))
  refine gl_aload_n C (q := 876) dL_law_875 rfl rfl ?_
  refine gl_aload_n C (q := 877) dL_law_876 rfl rfl ?_
  refine gl_iload_n C (q := 878) dL_law_877 rfl rfl ?_
  refine gl_iconst C (q := 879) (x := 1) dL_law_878 (by decide) rfl ?_
  refine gl_iadd C (q := 880) dL_law_879 rfl ?_
  refine gl_sld C (q := 881) (j := i + 1) (by simp only [gn_lit, nI_add]) (by omega) hn dL_law_880 rfl ?_
  refine gl_Vi C (q := 884) (p_X11_type hm hM1 hI) k_L_109 hm0 rfl (by decide) rfl rfl (Nat.le_of_ble_eq_true rfl) rfl rfl hkc hks dL_law_881 rfl ?_
  rintro z2 w2 ⟨hz2, hf2⟩
  obtain ⟨ez, hV2⟩ := cb_type hz1 hz2 hI hH hB
  have hV3 := hV2.keep (fun a g => hf2 a (by omega))
  exact gl_icmpeq C (t := 965) (q := 887) dL_law_884 (by decide) rfl (fun _ => hk _ hV3) (fun h => absurd ez h)

set_option maxRecDepth 100000 in
set_option maxHeartbeats 4000000 in
theorem law_clear {X : gj_X} {p : Program} {e : Env} {s : State} {m : MethodId} {below : List Frame} {meth : Method} {c : Code} {b nx lim : Nat} {xs : Nat → Int32} {σ : gj_H} {v : gj_V} {kc ks x i : Nat} (C : lw_C X p s m meth c b nx xs) (hn : nx ≤ 3072) (hi : i + 6 ≤ nx) (hkc : kc ≤ 600000) (hks : ks ≤ 7302250) (hs : gsh σ x) (hm : msh σ (x + 477)) (hV : LV (GR v x) (MG v (x + 477))) (hk : ∀ v' : gj_V, LV (GR v' x) (MG v' (x + 477)) → lw_G X p e s m below meth c b lim σ v' kc ks 965 [some (.ref b), some (.ref x), some (.ref (x + 477)), some (.int (nI i))] []) : lw_G X p e s m below meth c b lim σ v kc ks 889 [some (.ref b), some (.ref x), some (.ref (x + 477)), some (.int (nI i))] [] := by
  obtain ⟨A, t, l, tx, cc, hG, hM, ⟨n, sn, hI⟩, hH, hB⟩ := hV
  have hx0 := hs.1
  have hm0 := hm.1
  refine gl_aload_n C (q := 890) dL_law_889 rfl rfl ?_
  refine gl_Vi C (q := 893) (p_X10_clear hs hG hI) k_L_110 hx0 rfl (by decide) rfl rfl (Nat.le_of_ble_eq_true rfl) rfl rfl hkc hks dL_law_890 rfl ?_
  rintro z1 w1 ⟨hz1, hf1⟩
  have hM1 := hM.kp (v' := w1) (fun a g1 g2 => hf1 a (by omega))
  refine gl_aload_n C (q := 894) dL_law_893 rfl rfl ?_
  refine gl_Vi C (q := 897) (p_X11_clear hm hM1 hI) k_L_113 hm0 rfl (by decide) rfl rfl (Nat.le_of_ble_eq_true rfl) rfl rfl hkc hks dL_law_894 rfl ?_
  rintro z2 w2 ⟨hz2, hf2⟩
  obtain ⟨ez, hV2⟩ := cb_clear hz1 hz2 hI hH hB
  have hV3 := hV2.keep (fun a g => hf2 a (by omega))
  exact gl_icmpeq C (t := 965) (q := 900) dL_law_897 (by decide) rfl (fun _ => hk _ hV3) (fun h => absurd ez h)

set_option maxRecDepth 100000 in
set_option maxHeartbeats 4000000 in
theorem law_does {X : gj_X} {p : Program} {e : Env} {s : State} {m : MethodId} {below : List Frame} {meth : Method} {c : Code} {b nx lim : Nat} {xs : Nat → Int32} {σ : gj_H} {v : gj_V} {kc ks x i : Nat} (C : lw_C X p s m meth c b nx xs) (hn : nx ≤ 3072) (hi : i + 6 ≤ nx) (hkc : kc ≤ 600000) (hks : ks ≤ 7302250) (hs : gsh σ x) (hm : msh σ (x + 477)) (hV : LV (GR v x) (MG v (x + 477))) (hk : ∀ v' : gj_V, LV (GR v' x) (MG v' (x + 477)) → lw_G X p e s m below meth c b lim σ v' kc ks 965 [some (.ref b), some (.ref x), some (.ref (x + 477)), some (.int (nI i))] []) : lw_G X p e s m below meth c b lim σ v kc ks 902 [some (.ref b), some (.ref x), some (.ref (x + 477)), some (.int (nI i))] [] := by
  obtain ⟨A, t, l, tx, cc, hG, hM, ⟨n, sn, hI⟩, hH, hB⟩ := hV
  have hx0 := hs.1
  have hm0 := hm.1
  refine gl_aload_n C (q := 903) dL_law_902 rfl rfl ?_
  refine gl_Vi C (q := 906) (p_X10_does hs hG hI) k_L_114 hx0 rfl (by decide) rfl rfl (Nat.le_of_ble_eq_true rfl) rfl rfl hkc hks dL_law_903 rfl ?_
  rintro z1 w1 ⟨hz1, hf1⟩
  have hM1 := hM.kp (v' := w1) (fun a g1 g2 => hf1 a (by omega))
  refine gl_aload_n C (q := 907) dL_law_906 rfl rfl ?_
  refine gl_Vi C (q := 910) (p_X11_does hm hM1 hI hB) k_L_117 hm0 rfl (by decide) rfl rfl (Nat.le_of_ble_eq_true rfl) rfl rfl hkc hks dL_law_907 rfl ?_
  rintro z2 w2 ⟨hz2, hf2⟩
  obtain ⟨ez, hV2⟩ := cb_does hz1 hz2 hI hH hB
  have hV3 := hV2.keep (fun a g => hf2 a (by omega))
  exact gl_icmpeq C (t := 965) (q := 913) dL_law_910 (by decide) rfl (fun _ => hk _ hV3) (fun h => absurd ez h)

set_option maxRecDepth 100000 in
set_option maxHeartbeats 4000000 in
theorem law_back {X : gj_X} {p : Program} {e : Env} {s : State} {m : MethodId} {below : List Frame} {meth : Method} {c : Code} {b nx lim : Nat} {xs : Nat → Int32} {σ : gj_H} {v : gj_V} {kc ks x i : Nat} (C : lw_C X p s m meth c b nx xs) (hn : nx ≤ 3072) (hi : i + 6 ≤ nx) (hkc : kc ≤ 600000) (hks : ks ≤ 7302250) (hs : gsh σ x) (hm : msh σ (x + 477)) (hV : LV (GR v x) (MG v (x + 477))) (hk : ∀ v' : gj_V, LV (GR v' x) (MG v' (x + 477)) → lw_G X p e s m below meth c b lim σ v' kc ks 965 [some (.ref b), some (.ref x), some (.ref (x + 477)), some (.int (nI i))] []) : lw_G X p e s m below meth c b lim σ v kc ks 915 [some (.ref b), some (.ref x), some (.ref (x + 477)), some (.int (nI i))] [] := by
  obtain ⟨A, t, l, tx, cc, hG, hM, ⟨n, sn, hI⟩, hH, hB⟩ := hV
  have hx0 := hs.1
  have hm0 := hm.1
  refine gl_aload_n C (q := 916) dL_law_915 rfl rfl ?_
  refine gl_Vi C (q := 919) (p_X10_back hs hG hI) k_L_118 hx0 rfl (by decide) rfl rfl (Nat.le_of_ble_eq_true rfl) rfl rfl hkc hks dL_law_916 rfl ?_
  rintro z1 w1 ⟨hz1, hf1⟩
  have hM1 := hM.kp (v' := w1) (fun a g1 g2 => hf1 a (by omega))
  refine gl_aload_n C (q := 920) dL_law_919 rfl rfl ?_
  refine gl_Vi C (q := 923) (p_X11_back hm hM1 hI) k_L_121 hm0 rfl (by decide) rfl rfl (Nat.le_of_ble_eq_true rfl) rfl rfl hkc hks dL_law_920 rfl ?_
  rintro z2 w2 ⟨hz2, hf2⟩
  obtain ⟨ez, hV2⟩ := cb_back hz1 hz2 hI hH hB
  have hV3 := hV2.keep (fun a g => hf2 a (by omega))
  exact gl_icmpeq C (t := 965) (q := 926) dL_law_923 (by decide) rfl (fun _ => hk _ hV3) (fun h => absurd ez h)

set_option maxRecDepth 100000 in
set_option maxHeartbeats 4000000 in
theorem law_told {X : gj_X} {p : Program} {e : Env} {s : State} {m : MethodId} {below : List Frame} {meth : Method} {c : Code} {b nx lim : Nat} {xs : Nat → Int32} {σ : gj_H} {v : gj_V} {kc ks x i : Nat} (C : lw_C X p s m meth c b nx xs) (hn : nx ≤ 3072) (hi : i + 6 ≤ nx) (hkc : kc ≤ 600000) (hks : ks ≤ 7302250) (hs : gsh σ x) (hm : msh σ (x + 477)) (hV : LV (GR v x) (MG v (x + 477))) (hk : ∀ v' : gj_V, LV (GR v' x) (MG v' (x + 477)) → lw_G X p e s m below meth c b lim σ v' kc ks 965 [some (.ref b), some (.ref x), some (.ref (x + 477)), some (.int (nI i))] []) : lw_G X p e s m below meth c b lim σ v kc ks 928 [some (.ref b), some (.ref x), some (.ref (x + 477)), some (.int (nI i))] [] := by
  obtain ⟨A, t, l, tx, cc, hG, hM, ⟨n, sn, hI⟩, hH, hB⟩ := hV
  have hx0 := hs.1
  have hm0 := hm.1
  refine gl_aload_n C (q := 929) dL_law_928 rfl rfl ?_
  refine gl_aload_n C (q := 930) dL_law_929 rfl rfl ?_
  refine gl_iload_n C (q := 931) dL_law_930 rfl rfl ?_
  refine gl_iconst C (q := 932) (x := 1) dL_law_931 (by decide) rfl ?_
  refine gl_iadd C (q := 933) dL_law_932 rfl ?_
  refine gl_sld C (q := 934) (j := i + 1) (by simp only [gn_lit, nI_add]) (by omega) hn dL_law_933 rfl ?_
  refine gl_Vi C (q := 937) (p_X10_told hs hG hI) k_L_122 hx0 rfl (by decide) rfl rfl (Nat.le_of_ble_eq_true rfl) rfl rfl hkc hks dL_law_934 rfl ?_
  rintro z1 w1 ⟨hz1, hf1⟩
  have hM1 := hM.kp (v' := w1) (fun a g1 g2 => hf1 a (by omega))
  refine gl_aload_n C (q := 938) dL_law_937 rfl rfl ?_
  refine gl_aload_n C (q := 939) dL_law_938 rfl rfl ?_
  refine gl_iload_n C (q := 940) dL_law_939 rfl rfl ?_
  refine gl_iconst C (q := 941) (x := 1) dL_law_940 (by decide) rfl ?_
  refine gl_iadd C (q := 942) dL_law_941 rfl ?_
  refine gl_sld C (q := 943) (j := i + 1) (by simp only [gn_lit, nI_add]) (by omega) hn dL_law_942 rfl ?_
  refine gl_Vi C (q := 946) (p_X11_told hm hM1 hI) k_L_125 hm0 rfl (by decide) rfl rfl (Nat.le_of_ble_eq_true rfl) rfl rfl hkc hks dL_law_943 rfl ?_
  rintro z2 w2 ⟨hz2, hf2⟩
  obtain ⟨ez, hV2⟩ := cb_rd hz1 hz2 hI hH hB
  have hV3 := hV2.keep (fun a g => hf2 a (by omega))
  exact gl_icmpeq C (t := 965) (q := 949) dL_law_946 (by decide) rfl (fun _ => hk _ hV3) (fun h => absurd ez h)

set_option maxRecDepth 100000 in
set_option maxHeartbeats 4000000 in
theorem law_digest {X : gj_X} {p : Program} {e : Env} {s : State} {m : MethodId} {below : List Frame} {meth : Method} {c : Code} {b nx lim : Nat} {xs : Nat → Int32} {σ : gj_H} {v : gj_V} {kc ks x i : Nat} (C : lw_C X p s m meth c b nx xs) (hn : nx ≤ 3072) (hi : i + 6 ≤ nx) (hkc : kc ≤ 600000) (hks : ks ≤ 7302250) (hs : gsh σ x) (hm : msh σ (x + 477)) (hV : LV (GR v x) (MG v (x + 477))) (hk : ∀ v' : gj_V, LV (GR v' x) (MG v' (x + 477)) → lw_G X p e s m below meth c b lim σ v' kc ks 965 [some (.ref b), some (.ref x), some (.ref (x + 477)), some (.int (nI i))] []) : lw_G X p e s m below meth c b lim σ v kc ks 951 [some (.ref b), some (.ref x), some (.ref (x + 477)), some (.int (nI i))] [] := by
  obtain ⟨A, t, l, tx, cc, hG, hM, ⟨n, sn, hI⟩, hH, hB⟩ := hV
  have hx0 := hs.1
  have hm0 := hm.1
  refine gl_aload_n C (q := 952) dL_law_951 rfl rfl ?_
  refine gl_Vl C (q := 955) (p_X10_digest hs hG hI) k_L_126 hx0 rfl (by decide) rfl rfl (Nat.le_of_ble_eq_true rfl) rfl rfl hkc hks dL_law_952 rfl ?_
  rintro z1 w1 ⟨hz1, rfl⟩
  refine gl_aload_n C (q := 956) dL_law_955 rfl rfl ?_
  refine gl_Vl C (q := 959) (p_X11_digest hm hM hI) k_L_130 hm0 rfl (by decide) rfl rfl (Nat.le_of_ble_eq_true rfl) rfl rfl hkc hks dL_law_956 rfl ?_
  rintro z2 w2 ⟨hz2, rfl⟩
  rw [hz1, hz2]
  refine gl_lcmp C (q := 960) dL_law_959 rfl ?_
  rw [lc_0]
  exact gl_ifeq C (t := 965) (q := 963) dL_law_960 (by decide) rfl (fun _ => hk _ ⟨A, t, l, tx, cc, hG, hM, ⟨n, sn, hI⟩, hH, hB⟩) (fun h => absurd rfl h)

theorem sw_out {y : Int32} (h : ∀ j : Nat, j < 28 → ¬ y = nI j) : y.toInt < 0 ∨ 27 < y.toInt := by
  by_cases h0 : y < 0
  · exact Or.inl (by have := Int32.lt_iff_toInt_lt.mp h0; simpa using this)
  · by_cases h1 : y ≤ 27
    · obtain ⟨j, hj, e⟩ := nI_of2 (n := 27) (M := 27) (by decide) h0 h1
      exact absurd e (h j (by omega))
    · exact Or.inr (by have := Int32.lt_iff_toInt_lt.mp (Int32.not_le.mp h1); simpa using this)
theorem lp_in {n i : Nat} (hn : n ≤ 3072) (hi : i ≤ 3072) (h : ¬ nI n - 6 < nI i) : i + 6 ≤ n := by
  rcases Nat.lt_or_ge n 6 with g | g
  · exfalso
    have h2 := Int32.not_lt.mp h
    have h3 : nI n - 6 < 0 := by
      obtain rfl | rfl | rfl | rfl | rfl | rfl : n = 0 ∨ n = 1 ∨ n = 2 ∨ n = 3 ∨ n = 4 ∨ n = 5 := by omega
      all_goals decide
    exact nI_pos (n := i) (by omega) (Int32.lt_of_le_of_lt h2 h3)
  · have e6 : nI n - 6 = nI (n - 6) := by
      have : nI n = nI (n - 6) + 6 := by
        simp only [gn_lit, nI_add]
        rw [show n - 6 + 6 = n by omega]
      rw [this, Int32.add_sub_cancel]
    rw [e6] at h
    have := gn_le (Int32.not_lt.mp h) (by omega)
    omega

set_option maxRecDepth 100000 in
set_option maxHeartbeats 4000000 in
theorem law_loop {X : gj_X} {p : Program} {e : Env} {s : State} {m : MethodId} {below : List Frame} {meth : Method} {c : Code} {b nx lim : Nat} {xs : Nat → Int32} {σ : gj_H} {kc ks x : Nat} (C : lw_C X p s m meth c b nx xs) (hn : nx ≤ 3072) (hkc : kc ≤ 600000) (hks : ks ≤ 7302250) (hs : gsh σ x) (hm : msh σ (x + 477)) : ∀ (K i : Nat) (v : gj_V), nx - i < K → i ≤ nx → LV (GR v x) (MG v (x + 477)) → lw_G X p e s m below meth c b lim σ v kc ks 18 [some (.ref b), some (.ref x), some (.ref (x + 477)), some (.int (nI i))] [] := by
  intro K
  induction K with
  | zero => intro i v hK; exact absurd hK (by omega)
  | succ K ih =>
    intro i v hK hin hV
    refine gl_iload_n C (q := 19) dL_law_18 rfl rfl ?_
    refine gl_aload_n C (q := 20) dL_law_19 rfl rfl ?_
    refine gl_slen C (q := 21) dL_law_20 rfl ?_
    refine gl_bipush C (q := 23) (x := 6) dL_law_21 (by decide) rfl ?_
    refine gl_isub C (q := 24) dL_law_23 rfl ?_
    refine gl_icmpgt C (t := 971) (q := 27) dL_law_24 (by decide) rfl (fun _ => ?_) (fun h => ?_)
    · refine gl_iconst C (q := 972) (x := 1) dL_law_971 (by decide) rfl ?_
      exact gl_ret C hkc hks dL_law_972
    have hi6 := lp_in hn (by omega) h
    have hk : ∀ v' : gj_V, LV (GR v' x) (MG v' (x + 477)) → lw_G X p e s m below meth c b lim σ v' kc ks 965 [some (.ref b), some (.ref x), some (.ref (x + 477)), some (.int (nI i))] [] := by
      intro v' hV'
      refine gl_iinc C (q := 968) (y := nI (i + 6)) dL_law_965 rfl (by show nI i + 6 = nI (i + 6); simp only [gn_lit, nI_add]) rfl rfl rfl rfl ?_
      dsimp only [List.set]
      refine gl_goto C (q := 18) dL_law_968 (by decide) ?_
      exact ih (i + 6) v' (by omega) (by omega) hV'
    refine gl_aload_n C (q := 28) dL_law_27 rfl rfl ?_
    refine gl_iload_n C (q := 29) dL_law_28 rfl rfl ?_
    refine gl_sld C (q := 30) (j := i) rfl (by omega) hn dL_law_29 rfl ?_
    refine gl_bipush C (q := 32) (x := 31) dL_law_30 (by decide) rfl ?_
    refine gl_iand C (q := 33) dL_law_32 rfl ?_
    generalize xs i &&& 31 = y
    by_cases hy : ∃ j : Nat, j < 28 ∧ y = nI j
    · obtain ⟨j, hj, rfl⟩ := hy
      obtain rfl | rfl | rfl | rfl | rfl | rfl | rfl | rfl | rfl | rfl | rfl | rfl | rfl | rfl | rfl | rfl | rfl | rfl | rfl | rfl | rfl | rfl | rfl | rfl | rfl | rfl | rfl | rfl : j = 0 ∨ j = 1 ∨ j = 2 ∨ j = 3 ∨ j = 4 ∨ j = 5 ∨ j = 6 ∨ j = 7 ∨ j = 8 ∨ j = 9 ∨ j = 10 ∨ j = 11 ∨ j = 12 ∨ j = 13 ∨ j = 14 ∨ j = 15 ∨ j = 16 ∨ j = 17 ∨ j = 18 ∨ j = 19 ∨ j = 20 ∨ j = 21 ∨ j = 22 ∨ j = 23 ∨ j = 24 ∨ j = 25 ∨ j = 26 ∨ j = 27 := by omega
      · exact gl_tableIn C (t := 160) (o := 127) dL_law_33 (by decide) (by decide) (by decide) (by decide) (law_begins C hn hi6 hkc hks hs hm hV hk)
      · exact gl_tableIn C (t := 183) (o := 150) dL_law_33 (by decide) (by decide) (by decide) (by decide) (law_rooms C hn hi6 hkc hks hs hm hV hk)
      · exact gl_tableIn C (t := 216) (o := 183) dL_law_33 (by decide) (by decide) (by decide) (by decide) (law_station C hn hi6 hkc hks hs hm hV hk)
      · exact gl_tableIn C (t := 279) (o := 246) dL_law_33 (by decide) (by decide) (by decide) (by decide) (law_guards C hn hi6 hkc hks hs hm hV hk)
      · exact gl_tableIn C (t := 312) (o := 279) dL_law_33 (by decide) (by decide) (by decide) (by decide) (law_ticks C hn hi6 hkc hks hs hm hV hk)
      · exact gl_tableIn C (t := 335) (o := 302) dL_law_33 (by decide) (by decide) (by decide) (by decide) (law_puts C hn hi6 hkc hks hs hm hV hk)
      · exact gl_tableIn C (t := 368) (o := 335) dL_law_33 (by decide) (by decide) (by decide) (by decide) (law_takes C hn hi6 hkc hks hs hm hV hk)
      · exact gl_tableIn C (t := 391) (o := 358) dL_law_33 (by decide) (by decide) (by decide) (by decide) (law_moves C hn hi6 hkc hks hs hm hV hk)
      · exact gl_tableIn C (t := 444) (o := 411) dL_law_33 (by decide) (by decide) (by decide) (by decide) (law_asks C hn hi6 hkc hks hs hm hV hk)
      · exact gl_tableIn C (t := 497) (o := 464) dL_law_33 (by decide) (by decide) (by decide) (by decide) (law_cancels C hn hi6 hkc hks hs hm hV hk)
      · exact gl_tableIn C (t := 520) (o := 487) dL_law_33 (by decide) (by decide) (by decide) (by decide) (law_keeps C hn hi6 hkc hks hs hm hV hk)
      · exact gl_tableIn C (t := 553) (o := 520) dL_law_33 (by decide) (by decide) (by decide) (by decide) (law_lets C hn hi6 hkc hks hs hm hV hk)
      · exact gl_tableIn C (t := 586) (o := 553) dL_law_33 (by decide) (by decide) (by decide) (by decide) (law_quits C hn hi6 hkc hks hs hm hV hk)
      · exact gl_tableIn C (t := 609) (o := 576) dL_law_33 (by decide) (by decide) (by decide) (by decide) (law_keeper C hn hi6 hkc hks hs hm hV hk)
      · exact gl_tableIn C (t := 642) (o := 609) dL_law_33 (by decide) (by decide) (by decide) (by decide) (law_queue C hn hi6 hkc hks hs hm hV hk)
      · exact gl_tableIn C (t := 675) (o := 642) dL_law_33 (by decide) (by decide) (by decide) (by decide) (law_stuck C hn hi6 hkc hks hs hm hV hk)
      · exact gl_tableIn C (t := 688) (o := 655) dL_law_33 (by decide) (by decide) (by decide) (by decide) (law_buffer C hn hi6 hkc hks hs hm hV hk)
      · exact gl_tableIn C (t := 721) (o := 688) dL_law_33 (by decide) (by decide) (by decide) (by decide) (law_item C hn hi6 hkc hks hs hm hV hk)
      · exact gl_tableIn C (t := 754) (o := 721) dL_law_33 (by decide) (by decide) (by decide) (by decide) (law_of C hn hi6 hkc hks hs hm hV hk)
      · exact gl_tableIn C (t := 787) (o := 754) dL_law_33 (by decide) (by decide) (by decide) (by decide) (law_worker C hn hi6 hkc hks hs hm hV hk)
      · exact gl_tableIn C (t := 820) (o := 787) dL_law_33 (by decide) (by decide) (by decide) (by decide) (law_line C hn hi6 hkc hks hs hm hV hk)
      · exact gl_tableIn C (t := 843) (o := 810) dL_law_33 (by decide) (by decide) (by decide) (by decide) (law_works C hn hi6 hkc hks hs hm hV hk)
      · exact gl_tableIn C (t := 866) (o := 833) dL_law_33 (by decide) (by decide) (by decide) (by decide) (law_type C hn hi6 hkc hks hs hm hV hk)
      · exact gl_tableIn C (t := 889) (o := 856) dL_law_33 (by decide) (by decide) (by decide) (by decide) (law_clear C hn hi6 hkc hks hs hm hV hk)
      · exact gl_tableIn C (t := 902) (o := 869) dL_law_33 (by decide) (by decide) (by decide) (by decide) (law_does C hn hi6 hkc hks hs hm hV hk)
      · exact gl_tableIn C (t := 915) (o := 882) dL_law_33 (by decide) (by decide) (by decide) (by decide) (law_back C hn hi6 hkc hks hs hm hV hk)
      · exact gl_tableIn C (t := 928) (o := 895) dL_law_33 (by decide) (by decide) (by decide) (by decide) (law_told C hn hi6 hkc hks hs hm hV hk)
      · exact gl_tableIn C (t := 951) (o := 918) dL_law_33 (by decide) (by decide) (by decide) (by decide) (law_digest C hn hi6 hkc hks hs hm hV hk)
    · exact gl_tableOut C (t := 965) dL_law_33 (sw_out (fun j hj q => hy ⟨j, hj, q⟩)) (by decide) (hk v hV)
