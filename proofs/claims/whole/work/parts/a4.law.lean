/-! ===== the law: one call of both ===== -/
abbrev M_L_law : MX := (yL_law, cL_law, 4, some .boolean)
theorem iand_63 (v : Int) : 0 ≤ op_iand v 63 ∧ op_iand v 63 < 64 := by
  unfold op_iand
  have hn : (Int32.ofInt v &&& Int32.ofInt 63).toBitVec.toNat ≤ 63 := by
    rw [Int32.toBitVec_and, BitVec.toNat_and, show (Int32.ofInt 63).toBitVec.toNat = 63 by decide]
    exact Nat.and_le_right
  have e : (Int32.ofInt v &&& Int32.ofInt 63).toInt = ((Int32.ofInt v &&& Int32.ofInt 63).toBitVec.toNat : Int) := by
    show (Int32.ofInt v &&& Int32.ofInt 63).toBitVec.toInt = _
    exact BitVec.toInt_eq_toNat_of_lt (by omega)
  rw [e]
  omega
theorem lc_be {γ : Gh} {n : Int} {L : Nat} {g : Int → Int} {K : Sk} {V : Mm} {mc ms : Nat} {i : Int} {Q : Option PV → Sk → Mm → Prop} (h : Inv n L g K V) (hg : ∀ j, R32 (g j)) (hi : 0 ≤ i ∧ i + 6 ≤ L) (hn : n < 1000) (ih : ∀ K2 V2, Inv (n + 1) L g K2 V2 → Ev γ M_L_law 60 mc ms 18 [vR 30, vR 100, vR 156, vI (i + 6)] [] K2 V2 Q) : Ev γ M_L_law 60 (4 + mc) (108 + ms) 188 [vR 30, vR 100, vR 156, vI i] [] K V Q := by
  obtain ⟨D, E, im, er, h⟩ := h
  have hL := h.1.1.L
  obtain ⟨hk30, hv30⟩ := h.s30
  obtain ⟨x, dc, dm, Q1, d1, d2, hC, hR⟩ := st_be (γ := γ) h (hg (i + 1)) (hg (i + 2))
  clear h
  refine ev_aload_n (X := M_L_law) (pc := 188) dL_law_188 rfl ?_
  refine ev_aload_n (X := M_L_law) (pc := 189) dL_law_189 rfl ?_
  refine ev_iload_n (X := M_L_law) (pc := 190) dL_law_190 rfl ?_
  refine ev_iconst (X := M_L_law) (pc := 191) dL_law_191 ?_
  refine ev_iadd (X := M_L_law) (pc := 192) dL_law_192 ?_
  refine ev_ialoadE (X := M_L_law) (pc := 193) dL_law_193 hk30 (by omega) (congrFun hv30 _) ?_
  refine ev_aload_n (X := M_L_law) (pc := 194) dL_law_194 rfl ?_
  refine ev_iload_n (X := M_L_law) (pc := 195) dL_law_195 rfl ?_
  refine ev_iconst (X := M_L_law) (pc := 196) dL_law_196 ?_
  refine ev_iadd (X := M_L_law) (pc := 197) dL_law_197 ?_
  refine ev_ialoadE (X := M_L_law) (pc := 198) dL_law_198 hk30 (by omega) (congrFun hv30 _) ?_
  refine ev_virtG (X := M_L_law) (Y := M_X11_be) (pc := 199) (ci := 11) dL_law_199 mk_X11_be rfl kw_313 kw_314 kw_315 (lO_100 hL) hC rfl (Nat.lt_of_le_of_lt d1 (by decide)) rfl (Nat.le_of_ble_eq_true rfl) (Nat.zero_add _) (Nat.zero_add _) (fun K1 V1 hq1 => ?_)
  obtain ⟨⟨hL, hk30, hv30⟩, Q2, hM, hI⟩ := hR K1 V1 hq1
  refine ev_aload_n (X := M_L_law) (pc := 202) dL_law_202 rfl ?_
  refine ev_aload_n (X := M_L_law) (pc := 203) dL_law_203 rfl ?_
  refine ev_iload_n (X := M_L_law) (pc := 204) dL_law_204 rfl ?_
  refine ev_iconst (X := M_L_law) (pc := 205) dL_law_205 ?_
  refine ev_iadd (X := M_L_law) (pc := 206) dL_law_206 ?_
  refine ev_ialoadE (X := M_L_law) (pc := 207) dL_law_207 hk30 (by omega) (congrFun hv30 _) ?_
  refine ev_aload_n (X := M_L_law) (pc := 208) dL_law_208 rfl ?_
  refine ev_iload_n (X := M_L_law) (pc := 209) dL_law_209 rfl ?_
  refine ev_iconst (X := M_L_law) (pc := 210) dL_law_210 ?_
  refine ev_iadd (X := M_L_law) (pc := 211) dL_law_211 ?_
  refine ev_ialoadE (X := M_L_law) (pc := 212) dL_law_212 hk30 (by omega) (congrFun hv30 _) ?_
  refine ev_virtG (X := M_L_law) (Y := M_X12_be) (pc := 213) (ci := 12) dL_law_213 mk_X12_be rfl kw_1159 kw_1160 kw_1161 (lO_156 hL) hM rfl (Nat.lt_of_le_of_lt d2 (by decide)) rfl (Nat.le_of_ble_eq_true rfl) (Nat.zero_add _) (Nat.zero_add _) (fun K2 V2 hq2 => ?_)
  have hI := hI K2 V2 hq2
  refine ev_icmp_eqS (X := M_L_law) (pc := 216) (tgt := 1255) dL_law_216 (by decide) ?_
  refine ev_iincL (X := M_L_law) (pc := 1255) (ls' := [_, _, _, _]) dL_law_1255 rfl (by decide) rfl ?_
  refine ev_goto (X := M_L_law) (pc := 1258) (tgt := 18) dL_law_1258 (by decide) ?_
  exact ev_less (ih _ _ hI) (by omega) (by omega)
theorem lc_of {γ : Gh} {n : Int} {L : Nat} {g : Int → Int} {K : Sk} {V : Mm} {mc ms : Nat} {i : Int} {Q : Option PV → Sk → Mm → Prop} (h : Inv n L g K V) (hg : ∀ j, R32 (g j)) (hi : 0 ≤ i ∧ i + 6 ≤ L) (hn : n < 1000) (ih : ∀ K2 V2, Inv (n + 1) L g K2 V2 → Ev γ M_L_law 60 mc ms 18 [vR 30, vR 100, vR 156, vI (i + 6)] [] K2 V2 Q) : Ev γ M_L_law 60 (4 + mc) (108 + ms) 221 [vR 30, vR 100, vR 156, vI i] [] K V Q := by
  obtain ⟨D, E, im, er, h⟩ := h
  have hL := h.1.1.L
  obtain ⟨hk30, hv30⟩ := h.s30
  obtain ⟨x, dc, dm, Q1, d1, d2, hC, hR⟩ := st_of (γ := γ) h (hg (i + 1))
  clear h
  refine ev_aload_n (X := M_L_law) (pc := 221) dL_law_221 rfl ?_
  refine ev_aload_n (X := M_L_law) (pc := 222) dL_law_222 rfl ?_
  refine ev_iload_n (X := M_L_law) (pc := 223) dL_law_223 rfl ?_
  refine ev_iconst (X := M_L_law) (pc := 224) dL_law_224 ?_
  refine ev_iadd (X := M_L_law) (pc := 225) dL_law_225 ?_
  refine ev_ialoadE (X := M_L_law) (pc := 226) dL_law_226 hk30 (by omega) (congrFun hv30 _) ?_
  refine ev_virtG (X := M_L_law) (Y := M_X11_of) (pc := 227) (ci := 11) dL_law_227 mk_X11_of rfl kw_328 kw_329 kw_330 (lO_100 hL) hC rfl (Nat.lt_of_le_of_lt d1 (by decide)) rfl (Nat.le_of_ble_eq_true rfl) (Nat.zero_add _) (Nat.zero_add _) (fun K1 V1 hq1 => ?_)
  obtain ⟨⟨hL, hk30, hv30⟩, Q2, hM, hI⟩ := hR K1 V1 hq1
  refine ev_aload_n (X := M_L_law) (pc := 230) dL_law_230 rfl ?_
  refine ev_aload_n (X := M_L_law) (pc := 231) dL_law_231 rfl ?_
  refine ev_iload_n (X := M_L_law) (pc := 232) dL_law_232 rfl ?_
  refine ev_iconst (X := M_L_law) (pc := 233) dL_law_233 ?_
  refine ev_iadd (X := M_L_law) (pc := 234) dL_law_234 ?_
  refine ev_ialoadE (X := M_L_law) (pc := 235) dL_law_235 hk30 (by omega) (congrFun hv30 _) ?_
  refine ev_virtG (X := M_L_law) (Y := M_X12_of) (pc := 236) (ci := 12) dL_law_236 mk_X12_of rfl kw_1175 kw_1176 kw_1177 (lO_156 hL) hM rfl (Nat.lt_of_le_of_lt d2 (by decide)) rfl (Nat.le_of_ble_eq_true rfl) (Nat.zero_add _) (Nat.zero_add _) (fun K2 V2 hq2 => ?_)
  have hI := hI K2 V2 hq2
  refine ev_icmp_eqS (X := M_L_law) (pc := 239) (tgt := 1255) dL_law_239 (by decide) ?_
  refine ev_iincL (X := M_L_law) (pc := 1255) (ls' := [_, _, _, _]) dL_law_1255 rfl (by decide) rfl ?_
  refine ev_goto (X := M_L_law) (pc := 1258) (tgt := 18) dL_law_1258 (by decide) ?_
  exact ev_less (ih _ _ hI) (by omega) (by omega)
theorem lc_law {γ : Gh} {n : Int} {L : Nat} {g : Int → Int} {K : Sk} {V : Mm} {mc ms : Nat} {i : Int} {Q : Option PV → Sk → Mm → Prop} (h : Inv n L g K V) (hg : ∀ j, R32 (g j)) (hi : 0 ≤ i ∧ i + 6 ≤ L) (hn : n < 1000) (ih : ∀ K2 V2, Inv (n + 1) L g K2 V2 → Ev γ M_L_law 60 mc ms 18 [vR 30, vR 100, vR 156, vI (i + 6)] [] K2 V2 Q) : Ev γ M_L_law 60 (4 + mc) (108 + ms) 244 [vR 30, vR 100, vR 156, vI i] [] K V Q := by
  obtain ⟨D, E, im, er, h⟩ := h
  have hL := h.1.1.L
  obtain ⟨hk30, hv30⟩ := h.s30
  obtain ⟨x, dc, dm, Q1, d1, d2, hC, hR⟩ := st_law (γ := γ) h (hg (i + 1)) (hg (i + 2))
  clear h
  refine ev_aload_n (X := M_L_law) (pc := 244) dL_law_244 rfl ?_
  refine ev_aload_n (X := M_L_law) (pc := 245) dL_law_245 rfl ?_
  refine ev_iload_n (X := M_L_law) (pc := 246) dL_law_246 rfl ?_
  refine ev_iconst (X := M_L_law) (pc := 247) dL_law_247 ?_
  refine ev_iadd (X := M_L_law) (pc := 248) dL_law_248 ?_
  refine ev_ialoadE (X := M_L_law) (pc := 249) dL_law_249 hk30 (by omega) (congrFun hv30 _) ?_
  refine ev_aload_n (X := M_L_law) (pc := 250) dL_law_250 rfl ?_
  refine ev_iload_n (X := M_L_law) (pc := 251) dL_law_251 rfl ?_
  refine ev_iconst (X := M_L_law) (pc := 252) dL_law_252 ?_
  refine ev_iadd (X := M_L_law) (pc := 253) dL_law_253 ?_
  refine ev_ialoadE (X := M_L_law) (pc := 254) dL_law_254 hk30 (by omega) (congrFun hv30 _) ?_
  refine ev_virtG (X := M_L_law) (Y := M_X11_law) (pc := 255) (ci := 11) dL_law_255 mk_X11_law rfl kw_332 kw_333 kw_334 (lO_100 hL) hC rfl (Nat.lt_of_le_of_lt d1 (by decide)) rfl (Nat.le_of_ble_eq_true rfl) (show 1 + (3 + mc) = 4 + mc by omega) (show 5 + (103 + ms) = 108 + ms by omega) (fun K1 V1 hq1 => ?_)
  obtain ⟨⟨hL, hk30, hv30⟩, Q2, hM, hI⟩ := hR K1 V1 hq1
  refine ev_aload_n (X := M_L_law) (pc := 258) dL_law_258 rfl ?_
  refine ev_aload_n (X := M_L_law) (pc := 259) dL_law_259 rfl ?_
  refine ev_iload_n (X := M_L_law) (pc := 260) dL_law_260 rfl ?_
  refine ev_iconst (X := M_L_law) (pc := 261) dL_law_261 ?_
  refine ev_iadd (X := M_L_law) (pc := 262) dL_law_262 ?_
  refine ev_ialoadE (X := M_L_law) (pc := 263) dL_law_263 hk30 (by omega) (congrFun hv30 _) ?_
  refine ev_aload_n (X := M_L_law) (pc := 264) dL_law_264 rfl ?_
  refine ev_iload_n (X := M_L_law) (pc := 265) dL_law_265 rfl ?_
  refine ev_iconst (X := M_L_law) (pc := 266) dL_law_266 ?_
  refine ev_iadd (X := M_L_law) (pc := 267) dL_law_267 ?_
  refine ev_ialoadE (X := M_L_law) (pc := 268) dL_law_268 hk30 (by omega) (congrFun hv30 _) ?_
  refine ev_virtG (X := M_L_law) (Y := M_X12_law) (pc := 269) (ci := 12) dL_law_269 mk_X12_law rfl kw_1179 kw_1180 kw_1181 (lO_156 hL) hM rfl (Nat.lt_of_le_of_lt d2 (by decide)) rfl (Nat.le_of_ble_eq_true rfl) (Nat.zero_add _) (Nat.zero_add _) (fun K2 V2 hq2 => ?_)
  have hI := hI K2 V2 hq2
  refine ev_icmp_eqS (X := M_L_law) (pc := 272) (tgt := 1255) dL_law_272 (by decide) ?_
  refine ev_iincL (X := M_L_law) (pc := 1255) (ls' := [_, _, _, _]) dL_law_1255 rfl (by decide) rfl ?_
  refine ev_goto (X := M_L_law) (pc := 1258) (tgt := 18) dL_law_1258 (by decide) ?_
  exact ev_less (ih _ _ hI) (by omega) (by omega)
theorem lc_fence {γ : Gh} {n : Int} {L : Nat} {g : Int → Int} {K : Sk} {V : Mm} {mc ms : Nat} {i : Int} {Q : Option PV → Sk → Mm → Prop} (h : Inv n L g K V) (hg : ∀ j, R32 (g j)) (hi : 0 ≤ i ∧ i + 6 ≤ L) (hn : n < 1000) (ih : ∀ K2 V2, Inv (n + 1) L g K2 V2 → Ev γ M_L_law 60 mc ms 18 [vR 30, vR 100, vR 156, vI (i + 6)] [] K2 V2 Q) : Ev γ M_L_law 60 (4 + mc) (108 + ms) 277 [vR 30, vR 100, vR 156, vI i] [] K V Q := by
  obtain ⟨D, E, im, er, h⟩ := h
  have hL := h.1.1.L
  obtain ⟨hk30, hv30⟩ := h.s30
  obtain ⟨x, dc, dm, Q1, d1, d2, hC, hR⟩ := st_fence (γ := γ) h (hg (i + 1)) (hg (i + 2))
  clear h
  refine ev_aload_n (X := M_L_law) (pc := 277) dL_law_277 rfl ?_
  refine ev_aload_n (X := M_L_law) (pc := 278) dL_law_278 rfl ?_
  refine ev_iload_n (X := M_L_law) (pc := 279) dL_law_279 rfl ?_
  refine ev_iconst (X := M_L_law) (pc := 280) dL_law_280 ?_
  refine ev_iadd (X := M_L_law) (pc := 281) dL_law_281 ?_
  refine ev_ialoadE (X := M_L_law) (pc := 282) dL_law_282 hk30 (by omega) (congrFun hv30 _) ?_
  refine ev_aload_n (X := M_L_law) (pc := 283) dL_law_283 rfl ?_
  refine ev_iload_n (X := M_L_law) (pc := 284) dL_law_284 rfl ?_
  refine ev_iconst (X := M_L_law) (pc := 285) dL_law_285 ?_
  refine ev_iadd (X := M_L_law) (pc := 286) dL_law_286 ?_
  refine ev_ialoadE (X := M_L_law) (pc := 287) dL_law_287 hk30 (by omega) (congrFun hv30 _) ?_
  refine ev_virtG (X := M_L_law) (Y := M_X11_fence) (pc := 288) (ci := 11) dL_law_288 mk_X11_fence rfl kw_417 kw_418 kw_419 (lO_100 hL) hC rfl (Nat.lt_of_le_of_lt d1 (by decide)) rfl (Nat.le_of_ble_eq_true rfl) (Nat.zero_add _) (Nat.zero_add _) (fun K1 V1 hq1 => ?_)
  obtain ⟨⟨hL, hk30, hv30⟩, Q2, hM, hI⟩ := hR K1 V1 hq1
  refine ev_aload_n (X := M_L_law) (pc := 291) dL_law_291 rfl ?_
  refine ev_aload_n (X := M_L_law) (pc := 292) dL_law_292 rfl ?_
  refine ev_iload_n (X := M_L_law) (pc := 293) dL_law_293 rfl ?_
  refine ev_iconst (X := M_L_law) (pc := 294) dL_law_294 ?_
  refine ev_iadd (X := M_L_law) (pc := 295) dL_law_295 ?_
  refine ev_ialoadE (X := M_L_law) (pc := 296) dL_law_296 hk30 (by omega) (congrFun hv30 _) ?_
  refine ev_aload_n (X := M_L_law) (pc := 297) dL_law_297 rfl ?_
  refine ev_iload_n (X := M_L_law) (pc := 298) dL_law_298 rfl ?_
  refine ev_iconst (X := M_L_law) (pc := 299) dL_law_299 ?_
  refine ev_iadd (X := M_L_law) (pc := 300) dL_law_300 ?_
  refine ev_ialoadE (X := M_L_law) (pc := 301) dL_law_301 hk30 (by omega) (congrFun hv30 _) ?_
  refine ev_virtG (X := M_L_law) (Y := M_X12_fence) (pc := 302) (ci := 12) dL_law_302 mk_X12_fence rfl kw_1188 kw_1189 kw_1190 (lO_156 hL) hM rfl (Nat.lt_of_le_of_lt d2 (by decide)) rfl (Nat.le_of_ble_eq_true rfl) (Nat.zero_add _) (Nat.zero_add _) (fun K2 V2 hq2 => ?_)
  have hI := hI K2 V2 hq2
  refine ev_icmp_eqS (X := M_L_law) (pc := 305) (tgt := 1255) dL_law_305 (by decide) ?_
  refine ev_iincL (X := M_L_law) (pc := 1255) (ls' := [_, _, _, _]) dL_law_1255 rfl (by decide) rfl ?_
  refine ev_goto (X := M_L_law) (pc := 1258) (tgt := 18) dL_law_1258 (by decide) ?_
  exact ev_less (ih _ _ hI) (by omega) (by omega)
theorem lc_ofPair {γ : Gh} {n : Int} {L : Nat} {g : Int → Int} {K : Sk} {V : Mm} {mc ms : Nat} {i : Int} {Q : Option PV → Sk → Mm → Prop} (h : Inv n L g K V) (hg : ∀ j, R32 (g j)) (hi : 0 ≤ i ∧ i + 6 ≤ L) (hn : n < 1000) (ih : ∀ K2 V2, Inv (n + 1) L g K2 V2 → Ev γ M_L_law 60 mc ms 18 [vR 30, vR 100, vR 156, vI (i + 6)] [] K2 V2 Q) : Ev γ M_L_law 60 (4 + mc) (108 + ms) 310 [vR 30, vR 100, vR 156, vI i] [] K V Q := by
  obtain ⟨D, E, im, er, h⟩ := h
  have hL := h.1.1.L
  obtain ⟨hk30, hv30⟩ := h.s30
  obtain ⟨x, dc, dm, Q1, d1, d2, hC, hR⟩ := st_ofPair (γ := γ) h (hg (i + 1)) (hg (i + 2))
  clear h
  refine ev_aload_n (X := M_L_law) (pc := 310) dL_law_310 rfl ?_
  refine ev_aload_n (X := M_L_law) (pc := 311) dL_law_311 rfl ?_
  refine ev_iload_n (X := M_L_law) (pc := 312) dL_law_312 rfl ?_
  refine ev_iconst (X := M_L_law) (pc := 313) dL_law_313 ?_
  refine ev_iadd (X := M_L_law) (pc := 314) dL_law_314 ?_
  refine ev_ialoadE (X := M_L_law) (pc := 315) dL_law_315 hk30 (by omega) (congrFun hv30 _) ?_
  refine ev_aload_n (X := M_L_law) (pc := 316) dL_law_316 rfl ?_
  refine ev_iload_n (X := M_L_law) (pc := 317) dL_law_317 rfl ?_
  refine ev_iconst (X := M_L_law) (pc := 318) dL_law_318 ?_
  refine ev_iadd (X := M_L_law) (pc := 319) dL_law_319 ?_
  refine ev_ialoadE (X := M_L_law) (pc := 320) dL_law_320 hk30 (by omega) (congrFun hv30 _) ?_
  refine ev_virtG (X := M_L_law) (Y := M_X11_ofPair) (pc := 321) (ci := 11) dL_law_321 mk_X11_ofPair rfl kw_425 kw_426 kw_427 (lO_100 hL) hC rfl (Nat.lt_of_le_of_lt d1 (by decide)) rfl (Nat.le_of_ble_eq_true rfl) (Nat.zero_add _) (Nat.zero_add _) (fun K1 V1 hq1 => ?_)
  obtain ⟨⟨hL, hk30, hv30⟩, Q2, hM, hI⟩ := hR K1 V1 hq1
  refine ev_aload_n (X := M_L_law) (pc := 324) dL_law_324 rfl ?_
  refine ev_aload_n (X := M_L_law) (pc := 325) dL_law_325 rfl ?_
  refine ev_iload_n (X := M_L_law) (pc := 326) dL_law_326 rfl ?_
  refine ev_iconst (X := M_L_law) (pc := 327) dL_law_327 ?_
  refine ev_iadd (X := M_L_law) (pc := 328) dL_law_328 ?_
  refine ev_ialoadE (X := M_L_law) (pc := 329) dL_law_329 hk30 (by omega) (congrFun hv30 _) ?_
  refine ev_aload_n (X := M_L_law) (pc := 330) dL_law_330 rfl ?_
  refine ev_iload_n (X := M_L_law) (pc := 331) dL_law_331 rfl ?_
  refine ev_iconst (X := M_L_law) (pc := 332) dL_law_332 ?_
  refine ev_iadd (X := M_L_law) (pc := 333) dL_law_333 ?_
  refine ev_ialoadE (X := M_L_law) (pc := 334) dL_law_334 hk30 (by omega) (congrFun hv30 _) ?_
  refine ev_virtG (X := M_L_law) (Y := M_X12_ofPair) (pc := 335) (ci := 12) dL_law_335 mk_X12_ofPair rfl kw_1192 kw_1193 kw_1194 (lO_156 hL) hM rfl (Nat.lt_of_le_of_lt d2 (by decide)) rfl (Nat.le_of_ble_eq_true rfl) (Nat.zero_add _) (Nat.zero_add _) (fun K2 V2 hq2 => ?_)
  have hI := hI K2 V2 hq2
  refine ev_icmp_eqS (X := M_L_law) (pc := 338) (tgt := 1255) dL_law_338 (by decide) ?_
  refine ev_iincL (X := M_L_law) (pc := 1255) (ls' := [_, _, _, _]) dL_law_1255 rfl (by decide) rfl ?_
  refine ev_goto (X := M_L_law) (pc := 1258) (tgt := 18) dL_law_1258 (by decide) ?_
  exact ev_less (ih _ _ hI) (by omega) (by omega)
theorem lc_as {γ : Gh} {n : Int} {L : Nat} {g : Int → Int} {K : Sk} {V : Mm} {mc ms : Nat} {i : Int} {Q : Option PV → Sk → Mm → Prop} (h : Inv n L g K V) (hg : ∀ j, R32 (g j)) (hi : 0 ≤ i ∧ i + 6 ≤ L) (hn : n < 1000) (ih : ∀ K2 V2, Inv (n + 1) L g K2 V2 → Ev γ M_L_law 60 mc ms 18 [vR 30, vR 100, vR 156, vI (i + 6)] [] K2 V2 Q) : Ev γ M_L_law 60 (4 + mc) (108 + ms) 343 [vR 30, vR 100, vR 156, vI i] [] K V Q := by
  obtain ⟨D, E, im, er, h⟩ := h
  have hL := h.1.1.L
  obtain ⟨hk30, hv30⟩ := h.s30
  obtain ⟨x, dc, dm, Q1, d1, d2, hC, hR⟩ := st_as (γ := γ) h (hg (i + 1)) (hg (i + 2))
  clear h
  refine ev_aload_n (X := M_L_law) (pc := 343) dL_law_343 rfl ?_
  refine ev_aload_n (X := M_L_law) (pc := 344) dL_law_344 rfl ?_
  refine ev_iload_n (X := M_L_law) (pc := 345) dL_law_345 rfl ?_
  refine ev_iconst (X := M_L_law) (pc := 346) dL_law_346 ?_
  refine ev_iadd (X := M_L_law) (pc := 347) dL_law_347 ?_
  refine ev_ialoadE (X := M_L_law) (pc := 348) dL_law_348 hk30 (by omega) (congrFun hv30 _) ?_
  refine ev_aload_n (X := M_L_law) (pc := 349) dL_law_349 rfl ?_
  refine ev_iload_n (X := M_L_law) (pc := 350) dL_law_350 rfl ?_
  refine ev_iconst (X := M_L_law) (pc := 351) dL_law_351 ?_
  refine ev_iadd (X := M_L_law) (pc := 352) dL_law_352 ?_
  refine ev_ialoadE (X := M_L_law) (pc := 353) dL_law_353 hk30 (by omega) (congrFun hv30 _) ?_
  refine ev_virtG (X := M_L_law) (Y := M_X11_as) (pc := 354) (ci := 11) dL_law_354 mk_X11_as rfl kw_437 kw_438 kw_439 (lO_100 hL) hC rfl (Nat.lt_of_le_of_lt d1 (by decide)) rfl (Nat.le_of_ble_eq_true rfl) (Nat.zero_add _) (Nat.zero_add _) (fun K1 V1 hq1 => ?_)
  obtain ⟨⟨hL, hk30, hv30⟩, Q2, hM, hI⟩ := hR K1 V1 hq1
  refine ev_aload_n (X := M_L_law) (pc := 357) dL_law_357 rfl ?_
  refine ev_aload_n (X := M_L_law) (pc := 358) dL_law_358 rfl ?_
  refine ev_iload_n (X := M_L_law) (pc := 359) dL_law_359 rfl ?_
  refine ev_iconst (X := M_L_law) (pc := 360) dL_law_360 ?_
  refine ev_iadd (X := M_L_law) (pc := 361) dL_law_361 ?_
  refine ev_ialoadE (X := M_L_law) (pc := 362) dL_law_362 hk30 (by omega) (congrFun hv30 _) ?_
  refine ev_aload_n (X := M_L_law) (pc := 363) dL_law_363 rfl ?_
  refine ev_iload_n (X := M_L_law) (pc := 364) dL_law_364 rfl ?_
  refine ev_iconst (X := M_L_law) (pc := 365) dL_law_365 ?_
  refine ev_iadd (X := M_L_law) (pc := 366) dL_law_366 ?_
  refine ev_ialoadE (X := M_L_law) (pc := 367) dL_law_367 hk30 (by omega) (congrFun hv30 _) ?_
  refine ev_virtG (X := M_L_law) (Y := M_X12_as) (pc := 368) (ci := 12) dL_law_368 mk_X12_as rfl kw_1230 kw_1231 kw_1232 (lO_156 hL) hM rfl (Nat.lt_of_le_of_lt d2 (by decide)) rfl (Nat.le_of_ble_eq_true rfl) (Nat.zero_add _) (Nat.zero_add _) (fun K2 V2 hq2 => ?_)
  have hI := hI K2 V2 hq2
  refine ev_icmp_eqS (X := M_L_law) (pc := 371) (tgt := 1255) dL_law_371 (by decide) ?_
  refine ev_iincL (X := M_L_law) (pc := 1255) (ls' := [_, _, _, _]) dL_law_1255 rfl (by decide) rfl ?_
  refine ev_goto (X := M_L_law) (pc := 1258) (tgt := 18) dL_law_1258 (by decide) ?_
  exact ev_less (ih _ _ hI) (by omega) (by omega)
theorem lc_feed {γ : Gh} {n : Int} {L : Nat} {g : Int → Int} {K : Sk} {V : Mm} {mc ms : Nat} {i : Int} {Q : Option PV → Sk → Mm → Prop} (h : Inv n L g K V) (hg : ∀ j, R32 (g j)) (hi : 0 ≤ i ∧ i + 6 ≤ L) (hn : n < 1000) (ih : ∀ K2 V2, Inv (n + 1) L g K2 V2 → Ev γ M_L_law 60 mc ms 18 [vR 30, vR 100, vR 156, vI (i + 6)] [] K2 V2 Q) : Ev γ M_L_law 60 (4 + mc) (108 + ms) 376 [vR 30, vR 100, vR 156, vI i] [] K V Q := by
  obtain ⟨D, E, im, er, h⟩ := h
  have hL := h.1.1.L
  obtain ⟨hk30, hv30⟩ := h.s30
  obtain ⟨x, dc, dm, Q1, d1, d2, hC, hR⟩ := st_feed (γ := γ) (w := op_lor (op_lshl (g (i + 1)) 32) (op_land (g (i + 2)) 4294967295)) h (hg (i + 3))
  clear h
  refine ev_aload_n (X := M_L_law) (pc := 376) dL_law_376 rfl ?_
  refine ev_aload_n (X := M_L_law) (pc := 377) dL_law_377 rfl ?_
  refine ev_iload_n (X := M_L_law) (pc := 378) dL_law_378 rfl ?_
  refine ev_iconst (X := M_L_law) (pc := 379) dL_law_379 ?_
  refine ev_iadd (X := M_L_law) (pc := 380) dL_law_380 ?_
  refine ev_ialoadE (X := M_L_law) (pc := 381) dL_law_381 hk30 (by omega) (congrFun hv30 _) ?_
  refine ev_i2l (X := M_L_law) (pc := 382) dL_law_382 (hg _) ?_
  refine ev_bipush (X := M_L_law) (pc := 383) dL_law_383 (by decide) ?_
  refine ev_lshl (X := M_L_law) (pc := 385) dL_law_385 ?_
  refine ev_aload_n (X := M_L_law) (pc := 386) dL_law_386 rfl ?_
  refine ev_iload_n (X := M_L_law) (pc := 387) dL_law_387 rfl ?_
  refine ev_iconst (X := M_L_law) (pc := 388) dL_law_388 ?_
  refine ev_iadd (X := M_L_law) (pc := 389) dL_law_389 ?_
  refine ev_ialoadE (X := M_L_law) (pc := 390) dL_law_390 hk30 (by omega) (congrFun hv30 _) ?_
  refine ev_i2l (X := M_L_law) (pc := 391) dL_law_391 (hg _) ?_
  refine ev_ldc2 (X := M_L_law) (pc := 392) (v := 4294967295) dL_law_392 kw_1446 (by decide) ?_
  refine ev_land (X := M_L_law) (pc := 395) dL_law_395 ?_
  refine ev_lor (X := M_L_law) (pc := 396) dL_law_396 ?_
  refine ev_aload_n (X := M_L_law) (pc := 397) dL_law_397 rfl ?_
  refine ev_iload_n (X := M_L_law) (pc := 398) dL_law_398 rfl ?_
  refine ev_iconst (X := M_L_law) (pc := 399) dL_law_399 ?_
  refine ev_iadd (X := M_L_law) (pc := 400) dL_law_400 ?_
  refine ev_ialoadE (X := M_L_law) (pc := 401) dL_law_401 hk30 (by omega) (congrFun hv30 _) ?_
  refine ev_virtG (X := M_L_law) (Y := M_X11_feed) (pc := 402) (ci := 11) dL_law_402 mk_X11_feed rfl kw_445 kw_446 kw_447 (lO_100 hL) hC rfl (Nat.lt_of_le_of_lt d1 (by decide)) rfl (Nat.le_of_ble_eq_true rfl) (Nat.zero_add _) (Nat.zero_add _) (fun K1 V1 hq1 => ?_)
  obtain ⟨⟨hL, hk30, hv30⟩, Q2, hM, hI⟩ := hR K1 V1 hq1
  refine ev_aload_n (X := M_L_law) (pc := 405) dL_law_405 rfl ?_
  refine ev_aload_n (X := M_L_law) (pc := 406) dL_law_406 rfl ?_
  refine ev_iload_n (X := M_L_law) (pc := 407) dL_law_407 rfl ?_
  refine ev_iconst (X := M_L_law) (pc := 408) dL_law_408 ?_
  refine ev_iadd (X := M_L_law) (pc := 409) dL_law_409 ?_
  refine ev_ialoadE (X := M_L_law) (pc := 410) dL_law_410 hk30 (by omega) (congrFun hv30 _) ?_
  refine ev_i2l (X := M_L_law) (pc := 411) dL_law_411 (hg _) ?_
  refine ev_bipush (X := M_L_law) (pc := 412) dL_law_412 (by decide) ?_
  refine ev_lshl (X := M_L_law) (pc := 414) dL_law_414 ?_
  refine ev_aload_n (X := M_L_law) (pc := 415) dL_law_415 rfl ?_
  refine ev_iload_n (X := M_L_law) (pc := 416) dL_law_416 rfl ?_
  refine ev_iconst (X := M_L_law) (pc := 417) dL_law_417 ?_
  refine ev_iadd (X := M_L_law) (pc := 418) dL_law_418 ?_
  refine ev_ialoadE (X := M_L_law) (pc := 419) dL_law_419 hk30 (by omega) (congrFun hv30 _) ?_
  refine ev_i2l (X := M_L_law) (pc := 420) dL_law_420 (hg _) ?_
  refine ev_ldc2 (X := M_L_law) (pc := 421) (v := 4294967295) dL_law_421 kw_1446 (by decide) ?_
  refine ev_land (X := M_L_law) (pc := 424) dL_law_424 ?_
  refine ev_lor (X := M_L_law) (pc := 425) dL_law_425 ?_
  refine ev_aload_n (X := M_L_law) (pc := 426) dL_law_426 rfl ?_
  refine ev_iload_n (X := M_L_law) (pc := 427) dL_law_427 rfl ?_
  refine ev_iconst (X := M_L_law) (pc := 428) dL_law_428 ?_
  refine ev_iadd (X := M_L_law) (pc := 429) dL_law_429 ?_
  refine ev_ialoadE (X := M_L_law) (pc := 430) dL_law_430 hk30 (by omega) (congrFun hv30 _) ?_
  refine ev_virtG (X := M_L_law) (Y := M_X12_feed) (pc := 431) (ci := 12) dL_law_431 mk_X12_feed rfl kw_1084 kw_1085 kw_1086 (lO_156 hL) hM rfl (Nat.lt_of_le_of_lt d2 (by decide)) rfl (Nat.le_of_ble_eq_true rfl) (Nat.zero_add _) (Nat.zero_add _) (fun K2 V2 hq2 => ?_)
  have hI := hI K2 V2 hq2
  refine ev_icmp_eqS (X := M_L_law) (pc := 434) (tgt := 1255) dL_law_434 (by decide) ?_
  refine ev_iincL (X := M_L_law) (pc := 1255) (ls' := [_, _, _, _]) dL_law_1255 rfl (by decide) rfl ?_
  refine ev_goto (X := M_L_law) (pc := 1258) (tgt := 18) dL_law_1258 (by decide) ?_
  exact ev_less (ih _ _ hI) (by omega) (by omega)
theorem lc_text {γ : Gh} {n : Int} {L : Nat} {g : Int → Int} {K : Sk} {V : Mm} {mc ms : Nat} {i : Int} {Q : Option PV → Sk → Mm → Prop} (h : Inv n L g K V) (hg : ∀ j, R32 (g j)) (hi : 0 ≤ i ∧ i + 6 ≤ L) (hn : n < 1000) (ih : ∀ K2 V2, Inv (n + 1) L g K2 V2 → Ev γ M_L_law 60 mc ms 18 [vR 30, vR 100, vR 156, vI (i + 6)] [] K2 V2 Q) : Ev γ M_L_law 60 (4 + mc) (108 + ms) 439 [vR 30, vR 100, vR 156, vI i] [] K V Q := by
  obtain ⟨D, E, im, er, h⟩ := h
  have hL := h.1.1.L
  obtain ⟨hk30, hv30⟩ := h.s30
  obtain ⟨x, dc, dm, Q1, d1, d2, hC, hR⟩ := st_text (γ := γ) h (hg (i + 1))
  clear h
  refine ev_aload_n (X := M_L_law) (pc := 439) dL_law_439 rfl ?_
  refine ev_aload_n (X := M_L_law) (pc := 440) dL_law_440 rfl ?_
  refine ev_iload_n (X := M_L_law) (pc := 441) dL_law_441 rfl ?_
  refine ev_iconst (X := M_L_law) (pc := 442) dL_law_442 ?_
  refine ev_iadd (X := M_L_law) (pc := 443) dL_law_443 ?_
  refine ev_ialoadE (X := M_L_law) (pc := 444) dL_law_444 hk30 (by omega) (congrFun hv30 _) ?_
  refine ev_virtG (X := M_L_law) (Y := M_X11_text) (pc := 445) (ci := 11) dL_law_445 mk_X11_text rfl kw_453 kw_454 kw_455 (lO_100 hL) hC rfl (Nat.lt_of_le_of_lt d1 (by decide)) rfl (Nat.le_of_ble_eq_true rfl) (rfl : 4 + mc = 4 + mc) (rfl : 108 + ms = 108 + ms) (fun K1 V1 hq1 => ?_)
  obtain ⟨⟨hL, hk30, hv30⟩, Q2, hM, hI⟩ := hR K1 V1 hq1
  refine ev_aload_n (X := M_L_law) (pc := 448) dL_law_448 rfl ?_
  refine ev_aload_n (X := M_L_law) (pc := 449) dL_law_449 rfl ?_
  refine ev_iload_n (X := M_L_law) (pc := 450) dL_law_450 rfl ?_
  refine ev_iconst (X := M_L_law) (pc := 451) dL_law_451 ?_
  refine ev_iadd (X := M_L_law) (pc := 452) dL_law_452 ?_
  refine ev_ialoadE (X := M_L_law) (pc := 453) dL_law_453 hk30 (by omega) (congrFun hv30 _) ?_
  refine ev_virtG (X := M_L_law) (Y := M_X12_text) (pc := 454) (ci := 12) dL_law_454 mk_X12_text rfl kw_1098 kw_1099 kw_1100 (lO_156 hL) hM rfl (Nat.lt_of_le_of_lt d2 (by decide)) rfl (Nat.le_of_ble_eq_true rfl) (Nat.zero_add _) (Nat.zero_add _) (fun K2 V2 hq2 => ?_)
  have hI := hI K2 V2 hq2
  refine ev_icmp_eqS (X := M_L_law) (pc := 457) (tgt := 1255) dL_law_457 (by decide) ?_
  refine ev_iincL (X := M_L_law) (pc := 1255) (ls' := [_, _, _, _]) dL_law_1255 rfl (by decide) rfl ?_
  refine ev_goto (X := M_L_law) (pc := 1258) (tgt := 18) dL_law_1258 (by decide) ?_
  exact ev_less (ih _ _ hI) (by omega) (by omega)
theorem lc_gives {γ : Gh} {n : Int} {L : Nat} {g : Int → Int} {K : Sk} {V : Mm} {mc ms : Nat} {i : Int} {Q : Option PV → Sk → Mm → Prop} (h : Inv n L g K V) (hg : ∀ j, R32 (g j)) (hi : 0 ≤ i ∧ i + 6 ≤ L) (hn : n < 1000) (ih : ∀ K2 V2, Inv (n + 1) L g K2 V2 → Ev γ M_L_law 60 mc ms 18 [vR 30, vR 100, vR 156, vI (i + 6)] [] K2 V2 Q) : Ev γ M_L_law 60 (4 + mc) (108 + ms) 462 [vR 30, vR 100, vR 156, vI i] [] K V Q := by
  obtain ⟨D, E, im, er, h⟩ := h
  have hL := h.1.1.L
  obtain ⟨hk30, hv30⟩ := h.s30
  obtain ⟨x, dc, dm, Q1, d1, d2, hC, hR⟩ := st_gives (γ := γ) h (hg (i + 1)) (hg (i + 2)) (hg (i + 3)) (hg (i + 4)) (hg (i + 5))
  clear h
  refine ev_aload_n (X := M_L_law) (pc := 462) dL_law_462 rfl ?_
  refine ev_aload_n (X := M_L_law) (pc := 463) dL_law_463 rfl ?_
  refine ev_iload_n (X := M_L_law) (pc := 464) dL_law_464 rfl ?_
  refine ev_iconst (X := M_L_law) (pc := 465) dL_law_465 ?_
  refine ev_iadd (X := M_L_law) (pc := 466) dL_law_466 ?_
  refine ev_ialoadE (X := M_L_law) (pc := 467) dL_law_467 hk30 (by omega) (congrFun hv30 _) ?_
  refine ev_aload_n (X := M_L_law) (pc := 468) dL_law_468 rfl ?_
  refine ev_iload_n (X := M_L_law) (pc := 469) dL_law_469 rfl ?_
  refine ev_iconst (X := M_L_law) (pc := 470) dL_law_470 ?_
  refine ev_iadd (X := M_L_law) (pc := 471) dL_law_471 ?_
  refine ev_ialoadE (X := M_L_law) (pc := 472) dL_law_472 hk30 (by omega) (congrFun hv30 _) ?_
  refine ev_aload_n (X := M_L_law) (pc := 473) dL_law_473 rfl ?_
  refine ev_iload_n (X := M_L_law) (pc := 474) dL_law_474 rfl ?_
  refine ev_iconst (X := M_L_law) (pc := 475) dL_law_475 ?_
  refine ev_iadd (X := M_L_law) (pc := 476) dL_law_476 ?_
  refine ev_ialoadE (X := M_L_law) (pc := 477) dL_law_477 hk30 (by omega) (congrFun hv30 _) ?_
  refine ev_aload_n (X := M_L_law) (pc := 478) dL_law_478 rfl ?_
  refine ev_iload_n (X := M_L_law) (pc := 479) dL_law_479 rfl ?_
  refine ev_iconst (X := M_L_law) (pc := 480) dL_law_480 ?_
  refine ev_iadd (X := M_L_law) (pc := 481) dL_law_481 ?_
  refine ev_ialoadE (X := M_L_law) (pc := 482) dL_law_482 hk30 (by omega) (congrFun hv30 _) ?_
  refine ev_aload_n (X := M_L_law) (pc := 483) dL_law_483 rfl ?_
  refine ev_iload_n (X := M_L_law) (pc := 484) dL_law_484 rfl ?_
  refine ev_iconst (X := M_L_law) (pc := 485) dL_law_485 ?_
  refine ev_iadd (X := M_L_law) (pc := 486) dL_law_486 ?_
  refine ev_ialoadE (X := M_L_law) (pc := 487) dL_law_487 hk30 (by omega) (congrFun hv30 _) ?_
  refine ev_virtG (X := M_L_law) (Y := M_X11_gives) (pc := 488) (ci := 11) dL_law_488 mk_X11_gives rfl kw_610 kw_611 kw_612 (lO_100 hL) hC rfl (Nat.lt_of_le_of_lt d1 (by decide)) rfl (Nat.le_of_ble_eq_true rfl) (Nat.zero_add _) (Nat.zero_add _) (fun K1 V1 hq1 => ?_)
  obtain ⟨⟨hL, hk30, hv30⟩, Q2, hM, hI⟩ := hR K1 V1 hq1
  refine ev_aload_n (X := M_L_law) (pc := 491) dL_law_491 rfl ?_
  refine ev_aload_n (X := M_L_law) (pc := 492) dL_law_492 rfl ?_
  refine ev_iload_n (X := M_L_law) (pc := 493) dL_law_493 rfl ?_
  refine ev_iconst (X := M_L_law) (pc := 494) dL_law_494 ?_
  refine ev_iadd (X := M_L_law) (pc := 495) dL_law_495 ?_
  refine ev_ialoadE (X := M_L_law) (pc := 496) dL_law_496 hk30 (by omega) (congrFun hv30 _) ?_
  refine ev_aload_n (X := M_L_law) (pc := 497) dL_law_497 rfl ?_
  refine ev_iload_n (X := M_L_law) (pc := 498) dL_law_498 rfl ?_
  refine ev_iconst (X := M_L_law) (pc := 499) dL_law_499 ?_
  refine ev_iadd (X := M_L_law) (pc := 500) dL_law_500 ?_
  refine ev_ialoadE (X := M_L_law) (pc := 501) dL_law_501 hk30 (by omega) (congrFun hv30 _) ?_
  refine ev_aload_n (X := M_L_law) (pc := 502) dL_law_502 rfl ?_
  refine ev_iload_n (X := M_L_law) (pc := 503) dL_law_503 rfl ?_
  refine ev_iconst (X := M_L_law) (pc := 504) dL_law_504 ?_
  refine ev_iadd (X := M_L_law) (pc := 505) dL_law_505 ?_
  refine ev_ialoadE (X := M_L_law) (pc := 506) dL_law_506 hk30 (by omega) (congrFun hv30 _) ?_
  refine ev_aload_n (X := M_L_law) (pc := 507) dL_law_507 rfl ?_
  refine ev_iload_n (X := M_L_law) (pc := 508) dL_law_508 rfl ?_
  refine ev_iconst (X := M_L_law) (pc := 509) dL_law_509 ?_
  refine ev_iadd (X := M_L_law) (pc := 510) dL_law_510 ?_
  refine ev_ialoadE (X := M_L_law) (pc := 511) dL_law_511 hk30 (by omega) (congrFun hv30 _) ?_
  refine ev_aload_n (X := M_L_law) (pc := 512) dL_law_512 rfl ?_
  refine ev_iload_n (X := M_L_law) (pc := 513) dL_law_513 rfl ?_
  refine ev_iconst (X := M_L_law) (pc := 514) dL_law_514 ?_
  refine ev_iadd (X := M_L_law) (pc := 515) dL_law_515 ?_
  refine ev_ialoadE (X := M_L_law) (pc := 516) dL_law_516 hk30 (by omega) (congrFun hv30 _) ?_
  refine ev_virtG (X := M_L_law) (Y := M_X12_gives) (pc := 517) (ci := 12) dL_law_517 mk_X12_gives rfl kw_1148 kw_1149 kw_1150 (lO_156 hL) hM rfl (Nat.lt_of_le_of_lt d2 (by decide)) rfl (Nat.le_of_ble_eq_true rfl) (Nat.zero_add _) (Nat.zero_add _) (fun K2 V2 hq2 => ?_)
  have hI := hI K2 V2 hq2
  refine ev_icmp_eqS (X := M_L_law) (pc := 520) (tgt := 1255) dL_law_520 (by decide) ?_
  refine ev_iincL (X := M_L_law) (pc := 1255) (ls' := [_, _, _, _]) dL_law_1255 rfl (by decide) rfl ?_
  refine ev_goto (X := M_L_law) (pc := 1258) (tgt := 18) dL_law_1258 (by decide) ?_
  exact ev_less (ih _ _ hI) (by omega) (by omega)
theorem lc_meet {γ : Gh} {n : Int} {L : Nat} {g : Int → Int} {K : Sk} {V : Mm} {mc ms : Nat} {i : Int} {Q : Option PV → Sk → Mm → Prop} (h : Inv n L g K V) (hg : ∀ j, R32 (g j)) (hi : 0 ≤ i ∧ i + 6 ≤ L) (hn : n < 1000) (ih : ∀ K2 V2, Inv (n + 1) L g K2 V2 → Ev γ M_L_law 60 mc ms 18 [vR 30, vR 100, vR 156, vI (i + 6)] [] K2 V2 Q) : Ev γ M_L_law 60 (4 + mc) (108 + ms) 525 [vR 30, vR 100, vR 156, vI i] [] K V Q := by
  obtain ⟨D, E, im, er, h⟩ := h
  have hL := h.1.1.L
  obtain ⟨hk30, hv30⟩ := h.s30
  obtain ⟨x, dc, dm, Q1, d1, d2, hC, hR⟩ := st_meet (γ := γ) h (hg (i + 1))
  clear h
  refine ev_aload_n (X := M_L_law) (pc := 525) dL_law_525 rfl ?_
  refine ev_aload_n (X := M_L_law) (pc := 526) dL_law_526 rfl ?_
  refine ev_iload_n (X := M_L_law) (pc := 527) dL_law_527 rfl ?_
  refine ev_iconst (X := M_L_law) (pc := 528) dL_law_528 ?_
  refine ev_iadd (X := M_L_law) (pc := 529) dL_law_529 ?_
  refine ev_ialoadE (X := M_L_law) (pc := 530) dL_law_530 hk30 (by omega) (congrFun hv30 _) ?_
  refine ev_virtG (X := M_L_law) (Y := M_X11_meet) (pc := 531) (ci := 11) dL_law_531 mk_X11_meet rfl kw_620 kw_621 kw_622 (lO_100 hL) hC rfl (Nat.lt_of_le_of_lt d1 (by decide)) rfl (Nat.le_of_ble_eq_true rfl) (Nat.zero_add _) (Nat.zero_add _) (fun K1 V1 hq1 => ?_)
  obtain ⟨⟨hL, hk30, hv30⟩, Q2, hM, hI⟩ := hR K1 V1 hq1
  refine ev_aload_n (X := M_L_law) (pc := 534) dL_law_534 rfl ?_
  refine ev_aload_n (X := M_L_law) (pc := 535) dL_law_535 rfl ?_
  refine ev_iload_n (X := M_L_law) (pc := 536) dL_law_536 rfl ?_
  refine ev_iconst (X := M_L_law) (pc := 537) dL_law_537 ?_
  refine ev_iadd (X := M_L_law) (pc := 538) dL_law_538 ?_
  refine ev_ialoadE (X := M_L_law) (pc := 539) dL_law_539 hk30 (by omega) (congrFun hv30 _) ?_
  refine ev_virtG (X := M_L_law) (Y := M_X12_meet) (pc := 540) (ci := 12) dL_law_540 mk_X12_meet rfl kw_1238 kw_1239 kw_1240 (lO_156 hL) hM rfl (Nat.lt_of_le_of_lt d2 (by decide)) rfl (Nat.le_of_ble_eq_true rfl) (Nat.zero_add _) (Nat.zero_add _) (fun K2 V2 hq2 => ?_)
  have hI := hI K2 V2 hq2
  refine ev_icmp_eqS (X := M_L_law) (pc := 543) (tgt := 1255) dL_law_543 (by decide) ?_
  refine ev_iincL (X := M_L_law) (pc := 1255) (ls' := [_, _, _, _]) dL_law_1255 rfl (by decide) rfl ?_
  refine ev_goto (X := M_L_law) (pc := 1258) (tgt := 18) dL_law_1258 (by decide) ?_
  exact ev_less (ih _ _ hI) (by omega) (by omega)
theorem lc_chance {γ : Gh} {n : Int} {L : Nat} {g : Int → Int} {K : Sk} {V : Mm} {mc ms : Nat} {i : Int} {Q : Option PV → Sk → Mm → Prop} (h : Inv n L g K V) (hg : ∀ j, R32 (g j)) (hi : 0 ≤ i ∧ i + 6 ≤ L) (hn : n < 1000) (ih : ∀ K2 V2, Inv (n + 1) L g K2 V2 → Ev γ M_L_law 60 mc ms 18 [vR 30, vR 100, vR 156, vI (i + 6)] [] K2 V2 Q) : Ev γ M_L_law 60 (4 + mc) (108 + ms) 548 [vR 30, vR 100, vR 156, vI i] [] K V Q := by
  obtain ⟨D, E, im, er, h⟩ := h
  have hL := h.1.1.L
  obtain ⟨hk30, hv30⟩ := h.s30
  obtain ⟨x, dc, dm, Q1, d1, d2, hC, hR⟩ := st_chance (γ := γ) h (hg (i + 1))
  clear h
  refine ev_aload_n (X := M_L_law) (pc := 548) dL_law_548 rfl ?_
  refine ev_aload_n (X := M_L_law) (pc := 549) dL_law_549 rfl ?_
  refine ev_iload_n (X := M_L_law) (pc := 550) dL_law_550 rfl ?_
  refine ev_iconst (X := M_L_law) (pc := 551) dL_law_551 ?_
  refine ev_iadd (X := M_L_law) (pc := 552) dL_law_552 ?_
  refine ev_ialoadE (X := M_L_law) (pc := 553) dL_law_553 hk30 (by omega) (congrFun hv30 _) ?_
  refine ev_virtG (X := M_L_law) (Y := M_X11_chance) (pc := 554) (ci := 11) dL_law_554 mk_X11_chance rfl kw_632 kw_633 kw_634 (lO_100 hL) hC rfl (Nat.lt_of_le_of_lt d1 (by decide)) rfl (Nat.le_of_ble_eq_true rfl) (Nat.zero_add _) (Nat.zero_add _) (fun K1 V1 hq1 => ?_)
  obtain ⟨⟨hL, hk30, hv30⟩, Q2, hM, hI⟩ := hR K1 V1 hq1
  refine ev_aload_n (X := M_L_law) (pc := 557) dL_law_557 rfl ?_
  refine ev_aload_n (X := M_L_law) (pc := 558) dL_law_558 rfl ?_
  refine ev_iload_n (X := M_L_law) (pc := 559) dL_law_559 rfl ?_
  refine ev_iconst (X := M_L_law) (pc := 560) dL_law_560 ?_
  refine ev_iadd (X := M_L_law) (pc := 561) dL_law_561 ?_
  refine ev_ialoadE (X := M_L_law) (pc := 562) dL_law_562 hk30 (by omega) (congrFun hv30 _) ?_
  refine ev_virtG (X := M_L_law) (Y := M_X12_chance) (pc := 563) (ci := 12) dL_law_563 mk_X12_chance rfl kw_1259 kw_1260 kw_1261 (lO_156 hL) hM rfl (Nat.lt_of_le_of_lt d2 (by decide)) rfl (Nat.le_of_ble_eq_true rfl) (Nat.zero_add _) (Nat.zero_add _) (fun K2 V2 hq2 => ?_)
  have hI := hI K2 V2 hq2
  refine ev_icmp_eqS (X := M_L_law) (pc := 566) (tgt := 1255) dL_law_566 (by decide) ?_
  refine ev_iincL (X := M_L_law) (pc := 1255) (ls' := [_, _, _, _]) dL_law_1255 rfl (by decide) rfl ?_
  refine ev_goto (X := M_L_law) (pc := 1258) (tgt := 18) dL_law_1258 (by decide) ?_
  exact ev_less (ih _ _ hI) (by omega) (by omega)
theorem lc_reach {γ : Gh} {n : Int} {L : Nat} {g : Int → Int} {K : Sk} {V : Mm} {mc ms : Nat} {i : Int} {Q : Option PV → Sk → Mm → Prop} (h : Inv n L g K V) (hg : ∀ j, R32 (g j)) (hi : 0 ≤ i ∧ i + 6 ≤ L) (hn : n < 1000) (ih : ∀ K2 V2, Inv (n + 1) L g K2 V2 → Ev γ M_L_law 60 mc ms 18 [vR 30, vR 100, vR 156, vI (i + 6)] [] K2 V2 Q) : Ev γ M_L_law 60 (4 + mc) (108 + ms) 571 [vR 30, vR 100, vR 156, vI i] [] K V Q := by
  obtain ⟨D, E, im, er, h⟩ := h
  have hL := h.1.1.L
  obtain ⟨hk30, hv30⟩ := h.s30
  obtain ⟨x, dc, dm, Q1, d1, d2, hC, hR⟩ := st_reach (γ := γ) h (hg (i + 1))
  clear h
  refine ev_aload_n (X := M_L_law) (pc := 571) dL_law_571 rfl ?_
  refine ev_aload_n (X := M_L_law) (pc := 572) dL_law_572 rfl ?_
  refine ev_iload_n (X := M_L_law) (pc := 573) dL_law_573 rfl ?_
  refine ev_iconst (X := M_L_law) (pc := 574) dL_law_574 ?_
  refine ev_iadd (X := M_L_law) (pc := 575) dL_law_575 ?_
  refine ev_ialoadE (X := M_L_law) (pc := 576) dL_law_576 hk30 (by omega) (congrFun hv30 _) ?_
  refine ev_virtG (X := M_L_law) (Y := M_X11_reach) (pc := 577) (ci := 11) dL_law_577 mk_X11_reach rfl kw_650 kw_651 kw_652 (lO_100 hL) hC rfl (Nat.lt_of_le_of_lt d1 (by decide)) rfl (Nat.le_of_ble_eq_true rfl) (Nat.zero_add _) (Nat.zero_add _) (fun K1 V1 hq1 => ?_)
  obtain ⟨⟨hL, hk30, hv30⟩, Q2, hM, hI⟩ := hR K1 V1 hq1
  refine ev_aload_n (X := M_L_law) (pc := 580) dL_law_580 rfl ?_
  refine ev_aload_n (X := M_L_law) (pc := 581) dL_law_581 rfl ?_
  refine ev_iload_n (X := M_L_law) (pc := 582) dL_law_582 rfl ?_
  refine ev_iconst (X := M_L_law) (pc := 583) dL_law_583 ?_
  refine ev_iadd (X := M_L_law) (pc := 584) dL_law_584 ?_
  refine ev_ialoadE (X := M_L_law) (pc := 585) dL_law_585 hk30 (by omega) (congrFun hv30 _) ?_
  refine ev_virtG (X := M_L_law) (Y := M_X12_reach) (pc := 586) (ci := 12) dL_law_586 mk_X12_reach rfl kw_1280 kw_1281 kw_1282 (lO_156 hL) hM rfl (Nat.lt_of_le_of_lt d2 (by decide)) rfl (Nat.le_of_ble_eq_true rfl) (Nat.zero_add _) (Nat.zero_add _) (fun K2 V2 hq2 => ?_)
  have hI := hI K2 V2 hq2
  refine ev_icmp_eqS (X := M_L_law) (pc := 589) (tgt := 1255) dL_law_589 (by decide) ?_
  refine ev_iincL (X := M_L_law) (pc := 1255) (ls' := [_, _, _, _]) dL_law_1255 rfl (by decide) rfl ?_
  refine ev_goto (X := M_L_law) (pc := 1258) (tgt := 18) dL_law_1258 (by decide) ?_
  exact ev_less (ih _ _ hI) (by omega) (by omega)
theorem lc_way {γ : Gh} {n : Int} {L : Nat} {g : Int → Int} {K : Sk} {V : Mm} {mc ms : Nat} {i : Int} {Q : Option PV → Sk → Mm → Prop} (h : Inv n L g K V) (hg : ∀ j, R32 (g j)) (hi : 0 ≤ i ∧ i + 6 ≤ L) (hn : n < 1000) (ih : ∀ K2 V2, Inv (n + 1) L g K2 V2 → Ev γ M_L_law 60 mc ms 18 [vR 30, vR 100, vR 156, vI (i + 6)] [] K2 V2 Q) : Ev γ M_L_law 60 (4 + mc) (108 + ms) 594 [vR 30, vR 100, vR 156, vI i] [] K V Q := by
  obtain ⟨D, E, im, er, h⟩ := h
  have hL := h.1.1.L
  obtain ⟨hk30, hv30⟩ := h.s30
  obtain ⟨x, dc, dm, Q1, d1, d2, hC, hR⟩ := st_way (γ := γ) h (hg (i + 1)) (hg (i + 2))
  clear h
  refine ev_aload_n (X := M_L_law) (pc := 594) dL_law_594 rfl ?_
  refine ev_aload_n (X := M_L_law) (pc := 595) dL_law_595 rfl ?_
  refine ev_iload_n (X := M_L_law) (pc := 596) dL_law_596 rfl ?_
  refine ev_iconst (X := M_L_law) (pc := 597) dL_law_597 ?_
  refine ev_iadd (X := M_L_law) (pc := 598) dL_law_598 ?_
  refine ev_ialoadE (X := M_L_law) (pc := 599) dL_law_599 hk30 (by omega) (congrFun hv30 _) ?_
  refine ev_aload_n (X := M_L_law) (pc := 600) dL_law_600 rfl ?_
  refine ev_iload_n (X := M_L_law) (pc := 601) dL_law_601 rfl ?_
  refine ev_iconst (X := M_L_law) (pc := 602) dL_law_602 ?_
  refine ev_iadd (X := M_L_law) (pc := 603) dL_law_603 ?_
  refine ev_ialoadE (X := M_L_law) (pc := 604) dL_law_604 hk30 (by omega) (congrFun hv30 _) ?_
  refine ev_virtG (X := M_L_law) (Y := M_X11_way) (pc := 605) (ci := 11) dL_law_605 mk_X11_way rfl kw_683 kw_684 kw_685 (lO_100 hL) hC rfl (Nat.lt_of_le_of_lt d1 (by decide)) rfl (Nat.le_of_ble_eq_true rfl) (Nat.zero_add _) (Nat.zero_add _) (fun K1 V1 hq1 => ?_)
  obtain ⟨⟨hL, hk30, hv30⟩, Q2, hM, hI⟩ := hR K1 V1 hq1
  refine ev_aload_n (X := M_L_law) (pc := 608) dL_law_608 rfl ?_
  refine ev_aload_n (X := M_L_law) (pc := 609) dL_law_609 rfl ?_
  refine ev_iload_n (X := M_L_law) (pc := 610) dL_law_610 rfl ?_
  refine ev_iconst (X := M_L_law) (pc := 611) dL_law_611 ?_
  refine ev_iadd (X := M_L_law) (pc := 612) dL_law_612 ?_
  refine ev_ialoadE (X := M_L_law) (pc := 613) dL_law_613 hk30 (by omega) (congrFun hv30 _) ?_
  refine ev_aload_n (X := M_L_law) (pc := 614) dL_law_614 rfl ?_
  refine ev_iload_n (X := M_L_law) (pc := 615) dL_law_615 rfl ?_
  refine ev_iconst (X := M_L_law) (pc := 616) dL_law_616 ?_
  refine ev_iadd (X := M_L_law) (pc := 617) dL_law_617 ?_
  refine ev_ialoadE (X := M_L_law) (pc := 618) dL_law_618 hk30 (by omega) (congrFun hv30 _) ?_
  refine ev_virtG (X := M_L_law) (Y := M_X12_way) (pc := 619) (ci := 12) dL_law_619 mk_X12_way rfl kw_1293 kw_1294 kw_1295 (lO_156 hL) hM rfl (Nat.lt_of_le_of_lt d2 (by decide)) rfl (Nat.le_of_ble_eq_true rfl) (Nat.zero_add _) (Nat.zero_add _) (fun K2 V2 hq2 => ?_)
  have hI := hI K2 V2 hq2
  refine ev_icmp_eqS (X := M_L_law) (pc := 622) (tgt := 1255) dL_law_622 (by decide) ?_
  refine ev_iincL (X := M_L_law) (pc := 1255) (ls' := [_, _, _, _]) dL_law_1255 rfl (by decide) rfl ?_
  refine ev_goto (X := M_L_law) (pc := 1258) (tgt := 18) dL_law_1258 (by decide) ?_
  exact ev_less (ih _ _ hI) (by omega) (by omega)
theorem lc_can {γ : Gh} {n : Int} {L : Nat} {g : Int → Int} {K : Sk} {V : Mm} {mc ms : Nat} {i : Int} {Q : Option PV → Sk → Mm → Prop} (h : Inv n L g K V) (hg : ∀ j, R32 (g j)) (hi : 0 ≤ i ∧ i + 6 ≤ L) (hn : n < 1000) (ih : ∀ K2 V2, Inv (n + 1) L g K2 V2 → Ev γ M_L_law 60 mc ms 18 [vR 30, vR 100, vR 156, vI (i + 6)] [] K2 V2 Q) : Ev γ M_L_law 60 (4 + mc) (108 + ms) 627 [vR 30, vR 100, vR 156, vI i] [] K V Q := by
  obtain ⟨D, E, im, er, h⟩ := h
  have hL := h.1.1.L
  obtain ⟨hk30, hv30⟩ := h.s30
  obtain ⟨x, dc, dm, Q1, d1, d2, hC, hR⟩ := st_can (γ := γ) h (hg (i + 1)) (hg (i + 2))
  clear h
  refine ev_aload_n (X := M_L_law) (pc := 627) dL_law_627 rfl ?_
  refine ev_aload_n (X := M_L_law) (pc := 628) dL_law_628 rfl ?_
  refine ev_iload_n (X := M_L_law) (pc := 629) dL_law_629 rfl ?_
  refine ev_iconst (X := M_L_law) (pc := 630) dL_law_630 ?_
  refine ev_iadd (X := M_L_law) (pc := 631) dL_law_631 ?_
  refine ev_ialoadE (X := M_L_law) (pc := 632) dL_law_632 hk30 (by omega) (congrFun hv30 _) ?_
  refine ev_aload_n (X := M_L_law) (pc := 633) dL_law_633 rfl ?_
  refine ev_iload_n (X := M_L_law) (pc := 634) dL_law_634 rfl ?_
  refine ev_iconst (X := M_L_law) (pc := 635) dL_law_635 ?_
  refine ev_iadd (X := M_L_law) (pc := 636) dL_law_636 ?_
  refine ev_ialoadE (X := M_L_law) (pc := 637) dL_law_637 hk30 (by omega) (congrFun hv30 _) ?_
  refine ev_virtG (X := M_L_law) (Y := M_X11_can) (pc := 638) (ci := 11) dL_law_638 mk_X11_can rfl kw_691 kw_692 kw_693 (lO_100 hL) hC rfl (Nat.lt_of_le_of_lt d1 (by decide)) rfl (Nat.le_of_ble_eq_true rfl) (Nat.zero_add _) (Nat.zero_add _) (fun K1 V1 hq1 => ?_)
  obtain ⟨⟨hL, hk30, hv30⟩, Q2, hM, hI⟩ := hR K1 V1 hq1
  refine ev_aload_n (X := M_L_law) (pc := 641) dL_law_641 rfl ?_
  refine ev_aload_n (X := M_L_law) (pc := 642) dL_law_642 rfl ?_
  refine ev_iload_n (X := M_L_law) (pc := 643) dL_law_643 rfl ?_
  refine ev_iconst (X := M_L_law) (pc := 644) dL_law_644 ?_
  refine ev_iadd (X := M_L_law) (pc := 645) dL_law_645 ?_
  refine ev_ialoadE (X := M_L_law) (pc := 646) dL_law_646 hk30 (by omega) (congrFun hv30 _) ?_
  refine ev_aload_n (X := M_L_law) (pc := 647) dL_law_647 rfl ?_
  refine ev_iload_n (X := M_L_law) (pc := 648) dL_law_648 rfl ?_
  refine ev_iconst (X := M_L_law) (pc := 649) dL_law_649 ?_
  refine ev_iadd (X := M_L_law) (pc := 650) dL_law_650 ?_
  refine ev_ialoadE (X := M_L_law) (pc := 651) dL_law_651 hk30 (by omega) (congrFun hv30 _) ?_
  refine ev_virtG (X := M_L_law) (Y := M_X12_can) (pc := 652) (ci := 12) dL_law_652 mk_X12_can rfl kw_1297 kw_1298 kw_1299 (lO_156 hL) hM rfl (Nat.lt_of_le_of_lt d2 (by decide)) rfl (Nat.le_of_ble_eq_true rfl) (Nat.zero_add _) (Nat.zero_add _) (fun K2 V2 hq2 => ?_)
  have hI := hI K2 V2 hq2
  refine ev_icmp_eqS (X := M_L_law) (pc := 655) (tgt := 1255) dL_law_655 (by decide) ?_
  refine ev_iincL (X := M_L_law) (pc := 1255) (ls' := [_, _, _, _]) dL_law_1255 rfl (by decide) rfl ?_
  refine ev_goto (X := M_L_law) (pc := 1258) (tgt := 18) dL_law_1258 (by decide) ?_
  exact ev_less (ih _ _ hI) (by omega) (by omega)
theorem lc_reached {γ : Gh} {n : Int} {L : Nat} {g : Int → Int} {K : Sk} {V : Mm} {mc ms : Nat} {i : Int} {Q : Option PV → Sk → Mm → Prop} (h : Inv n L g K V) (hg : ∀ j, R32 (g j)) (hi : 0 ≤ i ∧ i + 6 ≤ L) (hn : n < 1000) (ih : ∀ K2 V2, Inv (n + 1) L g K2 V2 → Ev γ M_L_law 60 mc ms 18 [vR 30, vR 100, vR 156, vI (i + 6)] [] K2 V2 Q) : Ev γ M_L_law 60 (4 + mc) (108 + ms) 660 [vR 30, vR 100, vR 156, vI i] [] K V Q := by
  obtain ⟨D, E, im, er, h⟩ := h
  have hL := h.1.1.L
  obtain ⟨hk30, hv30⟩ := h.s30
  obtain ⟨x, dc, dm, Q1, d1, d2, hC, hR⟩ := st_reached (γ := γ) h 
  clear h
  refine ev_aload_n (X := M_L_law) (pc := 660) dL_law_660 rfl ?_
  refine ev_virtG (X := M_L_law) (Y := M_X11_reached) (pc := 661) (ci := 11) dL_law_661 mk_X11_reached rfl kw_700 kw_701 kw_702 (lO_100 hL) hC rfl (Nat.lt_of_le_of_lt d1 (by decide)) rfl (Nat.le_of_ble_eq_true rfl) (Nat.zero_add _) (Nat.zero_add _) (fun K1 V1 hq1 => ?_)
  obtain ⟨⟨hL, hk30, hv30⟩, Q2, hM, hI⟩ := hR K1 V1 hq1
  refine ev_aload_n (X := M_L_law) (pc := 664) dL_law_664 rfl ?_
  refine ev_virtG (X := M_L_law) (Y := M_X12_reached) (pc := 665) (ci := 12) dL_law_665 mk_X12_reached rfl kw_1305 kw_1306 kw_1307 (lO_156 hL) hM rfl (Nat.lt_of_le_of_lt d2 (by decide)) rfl (Nat.le_of_ble_eq_true rfl) (Nat.zero_add _) (Nat.zero_add _) (fun K2 V2 hq2 => ?_)
  have hI := hI K2 V2 hq2
  refine ev_icmp_eqS (X := M_L_law) (pc := 668) (tgt := 1255) dL_law_668 (by decide) ?_
  refine ev_iincL (X := M_L_law) (pc := 1255) (ls' := [_, _, _, _]) dL_law_1255 rfl (by decide) rfl ?_
  refine ev_goto (X := M_L_law) (pc := 1258) (tgt := 18) dL_law_1258 (by decide) ?_
  exact ev_less (ih _ _ hI) (by omega) (by omega)
theorem lc_stays {γ : Gh} {n : Int} {L : Nat} {g : Int → Int} {K : Sk} {V : Mm} {mc ms : Nat} {i : Int} {Q : Option PV → Sk → Mm → Prop} (h : Inv n L g K V) (hg : ∀ j, R32 (g j)) (hi : 0 ≤ i ∧ i + 6 ≤ L) (hn : n < 1000) (ih : ∀ K2 V2, Inv (n + 1) L g K2 V2 → Ev γ M_L_law 60 mc ms 18 [vR 30, vR 100, vR 156, vI (i + 6)] [] K2 V2 Q) : Ev γ M_L_law 60 (4 + mc) (108 + ms) 673 [vR 30, vR 100, vR 156, vI i] [] K V Q := by
  obtain ⟨D, E, im, er, h⟩ := h
  have hL := h.1.1.L
  obtain ⟨hk30, hv30⟩ := h.s30
  obtain ⟨x, dc, dm, Q1, d1, d2, hC, hR⟩ := st_stays (γ := γ) h (hg (i + 1)) (hg (i + 2))
  clear h
  refine ev_aload_n (X := M_L_law) (pc := 673) dL_law_673 rfl ?_
  refine ev_aload_n (X := M_L_law) (pc := 674) dL_law_674 rfl ?_
  refine ev_iload_n (X := M_L_law) (pc := 675) dL_law_675 rfl ?_
  refine ev_iconst (X := M_L_law) (pc := 676) dL_law_676 ?_
  refine ev_iadd (X := M_L_law) (pc := 677) dL_law_677 ?_
  refine ev_ialoadE (X := M_L_law) (pc := 678) dL_law_678 hk30 (by omega) (congrFun hv30 _) ?_
  refine ev_aload_n (X := M_L_law) (pc := 679) dL_law_679 rfl ?_
  refine ev_iload_n (X := M_L_law) (pc := 680) dL_law_680 rfl ?_
  refine ev_iconst (X := M_L_law) (pc := 681) dL_law_681 ?_
  refine ev_iadd (X := M_L_law) (pc := 682) dL_law_682 ?_
  refine ev_ialoadE (X := M_L_law) (pc := 683) dL_law_683 hk30 (by omega) (congrFun hv30 _) ?_
  refine ev_virtG (X := M_L_law) (Y := M_X11_stays) (pc := 684) (ci := 11) dL_law_684 mk_X11_stays rfl kw_704 kw_705 kw_706 (lO_100 hL) hC rfl (Nat.lt_of_le_of_lt d1 (by decide)) rfl (Nat.le_of_ble_eq_true rfl) (Nat.zero_add _) (Nat.zero_add _) (fun K1 V1 hq1 => ?_)
  obtain ⟨⟨hL, hk30, hv30⟩, Q2, hM, hI⟩ := hR K1 V1 hq1
  refine ev_aload_n (X := M_L_law) (pc := 687) dL_law_687 rfl ?_
  refine ev_aload_n (X := M_L_law) (pc := 688) dL_law_688 rfl ?_
  refine ev_iload_n (X := M_L_law) (pc := 689) dL_law_689 rfl ?_
  refine ev_iconst (X := M_L_law) (pc := 690) dL_law_690 ?_
  refine ev_iadd (X := M_L_law) (pc := 691) dL_law_691 ?_
  refine ev_ialoadE (X := M_L_law) (pc := 692) dL_law_692 hk30 (by omega) (congrFun hv30 _) ?_
  refine ev_aload_n (X := M_L_law) (pc := 693) dL_law_693 rfl ?_
  refine ev_iload_n (X := M_L_law) (pc := 694) dL_law_694 rfl ?_
  refine ev_iconst (X := M_L_law) (pc := 695) dL_law_695 ?_
  refine ev_iadd (X := M_L_law) (pc := 696) dL_law_696 ?_
  refine ev_ialoadE (X := M_L_law) (pc := 697) dL_law_697 hk30 (by omega) (congrFun hv30 _) ?_
  refine ev_virtG (X := M_L_law) (Y := M_X12_stays) (pc := 698) (ci := 12) dL_law_698 mk_X12_stays rfl kw_1309 kw_1310 kw_1311 (lO_156 hL) hM rfl (Nat.lt_of_le_of_lt d2 (by decide)) rfl (Nat.le_of_ble_eq_true rfl) (Nat.zero_add _) (Nat.zero_add _) (fun K2 V2 hq2 => ?_)
  have hI := hI K2 V2 hq2
  refine ev_icmp_eqS (X := M_L_law) (pc := 701) (tgt := 1255) dL_law_701 (by decide) ?_
  refine ev_iincL (X := M_L_law) (pc := 1255) (ls' := [_, _, _, _]) dL_law_1255 rfl (by decide) rfl ?_
  refine ev_goto (X := M_L_law) (pc := 1258) (tgt := 18) dL_law_1258 (by decide) ?_
  exact ev_less (ih _ _ hI) (by omega) (by omega)
theorem lc_bars {γ : Gh} {n : Int} {L : Nat} {g : Int → Int} {K : Sk} {V : Mm} {mc ms : Nat} {i : Int} {Q : Option PV → Sk → Mm → Prop} (h : Inv n L g K V) (hg : ∀ j, R32 (g j)) (hi : 0 ≤ i ∧ i + 6 ≤ L) (hn : n < 1000) (ih : ∀ K2 V2, Inv (n + 1) L g K2 V2 → Ev γ M_L_law 60 mc ms 18 [vR 30, vR 100, vR 156, vI (i + 6)] [] K2 V2 Q) : Ev γ M_L_law 60 (4 + mc) (108 + ms) 706 [vR 30, vR 100, vR 156, vI i] [] K V Q := by
  obtain ⟨D, E, im, er, h⟩ := h
  have hL := h.1.1.L
  obtain ⟨hk30, hv30⟩ := h.s30
  obtain ⟨x, dc, dm, Q1, d1, d2, hC, hR⟩ := st_bars (γ := γ) h (hg (i + 1)) (hg (i + 2))
  clear h
  refine ev_aload_n (X := M_L_law) (pc := 706) dL_law_706 rfl ?_
  refine ev_aload_n (X := M_L_law) (pc := 707) dL_law_707 rfl ?_
  refine ev_iload_n (X := M_L_law) (pc := 708) dL_law_708 rfl ?_
  refine ev_iconst (X := M_L_law) (pc := 709) dL_law_709 ?_
  refine ev_iadd (X := M_L_law) (pc := 710) dL_law_710 ?_
  refine ev_ialoadE (X := M_L_law) (pc := 711) dL_law_711 hk30 (by omega) (congrFun hv30 _) ?_
  refine ev_aload_n (X := M_L_law) (pc := 712) dL_law_712 rfl ?_
  refine ev_iload_n (X := M_L_law) (pc := 713) dL_law_713 rfl ?_
  refine ev_iconst (X := M_L_law) (pc := 714) dL_law_714 ?_
  refine ev_iadd (X := M_L_law) (pc := 715) dL_law_715 ?_
  refine ev_ialoadE (X := M_L_law) (pc := 716) dL_law_716 hk30 (by omega) (congrFun hv30 _) ?_
  refine ev_virtG (X := M_L_law) (Y := M_X11_bars) (pc := 717) (ci := 11) dL_law_717 mk_X11_bars rfl kw_715 kw_716 kw_717 (lO_100 hL) hC rfl (Nat.lt_of_le_of_lt d1 (by decide)) rfl (Nat.le_of_ble_eq_true rfl) (Nat.zero_add _) (Nat.zero_add _) (fun K1 V1 hq1 => ?_)
  obtain ⟨⟨hL, hk30, hv30⟩, Q2, hM, hI⟩ := hR K1 V1 hq1
  refine ev_aload_n (X := M_L_law) (pc := 720) dL_law_720 rfl ?_
  refine ev_aload_n (X := M_L_law) (pc := 721) dL_law_721 rfl ?_
  refine ev_iload_n (X := M_L_law) (pc := 722) dL_law_722 rfl ?_
  refine ev_iconst (X := M_L_law) (pc := 723) dL_law_723 ?_
  refine ev_iadd (X := M_L_law) (pc := 724) dL_law_724 ?_
  refine ev_ialoadE (X := M_L_law) (pc := 725) dL_law_725 hk30 (by omega) (congrFun hv30 _) ?_
  refine ev_aload_n (X := M_L_law) (pc := 726) dL_law_726 rfl ?_
  refine ev_iload_n (X := M_L_law) (pc := 727) dL_law_727 rfl ?_
  refine ev_iconst (X := M_L_law) (pc := 728) dL_law_728 ?_
  refine ev_iadd (X := M_L_law) (pc := 729) dL_law_729 ?_
  refine ev_ialoadE (X := M_L_law) (pc := 730) dL_law_730 hk30 (by omega) (congrFun hv30 _) ?_
  refine ev_virtG (X := M_L_law) (Y := M_X12_bars) (pc := 731) (ci := 12) dL_law_731 mk_X12_bars rfl kw_1320 kw_1321 kw_1322 (lO_156 hL) hM rfl (Nat.lt_of_le_of_lt d2 (by decide)) rfl (Nat.le_of_ble_eq_true rfl) (Nat.zero_add _) (Nat.zero_add _) (fun K2 V2 hq2 => ?_)
  have hI := hI K2 V2 hq2
  refine ev_icmp_eqS (X := M_L_law) (pc := 734) (tgt := 1255) dL_law_734 (by decide) ?_
  refine ev_iincL (X := M_L_law) (pc := 1255) (ls' := [_, _, _, _]) dL_law_1255 rfl (by decide) rfl ?_
  refine ev_goto (X := M_L_law) (pc := 1258) (tgt := 18) dL_law_1258 (by decide) ?_
  exact ev_less (ih _ _ hI) (by omega) (by omega)
theorem lc_ways {γ : Gh} {n : Int} {L : Nat} {g : Int → Int} {K : Sk} {V : Mm} {mc ms : Nat} {i : Int} {Q : Option PV → Sk → Mm → Prop} (h : Inv n L g K V) (hg : ∀ j, R32 (g j)) (hi : 0 ≤ i ∧ i + 6 ≤ L) (hn : n < 1000) (ih : ∀ K2 V2, Inv (n + 1) L g K2 V2 → Ev γ M_L_law 60 mc ms 18 [vR 30, vR 100, vR 156, vI (i + 6)] [] K2 V2 Q) : Ev γ M_L_law 60 (4 + mc) (108 + ms) 739 [vR 30, vR 100, vR 156, vI i] [] K V Q := by
  obtain ⟨D, E, im, er, h⟩ := h
  have hL := h.1.1.L
  obtain ⟨hk30, hv30⟩ := h.s30
  obtain ⟨x, dc, dm, Q1, d1, d2, hC, hR⟩ := st_ways (γ := γ) h (hg (i + 1)) (hg (i + 2))
  clear h
  refine ev_aload_n (X := M_L_law) (pc := 739) dL_law_739 rfl ?_
  refine ev_aload_n (X := M_L_law) (pc := 740) dL_law_740 rfl ?_
  refine ev_iload_n (X := M_L_law) (pc := 741) dL_law_741 rfl ?_
  refine ev_iconst (X := M_L_law) (pc := 742) dL_law_742 ?_
  refine ev_iadd (X := M_L_law) (pc := 743) dL_law_743 ?_
  refine ev_ialoadE (X := M_L_law) (pc := 744) dL_law_744 hk30 (by omega) (congrFun hv30 _) ?_
  refine ev_aload_n (X := M_L_law) (pc := 745) dL_law_745 rfl ?_
  refine ev_iload_n (X := M_L_law) (pc := 746) dL_law_746 rfl ?_
  refine ev_iconst (X := M_L_law) (pc := 747) dL_law_747 ?_
  refine ev_iadd (X := M_L_law) (pc := 748) dL_law_748 ?_
  refine ev_ialoadE (X := M_L_law) (pc := 749) dL_law_749 hk30 (by omega) (congrFun hv30 _) ?_
  refine ev_virtG (X := M_L_law) (Y := M_X11_ways) (pc := 750) (ci := 11) dL_law_750 mk_X11_ways rfl kw_722 kw_723 kw_724 (lO_100 hL) hC rfl (Nat.lt_of_le_of_lt d1 (by decide)) rfl (Nat.le_of_ble_eq_true rfl) (Nat.zero_add _) (Nat.zero_add _) (fun K1 V1 hq1 => ?_)
  obtain ⟨⟨hL, hk30, hv30⟩, Q2, hM, hI⟩ := hR K1 V1 hq1
  refine ev_aload_n (X := M_L_law) (pc := 753) dL_law_753 rfl ?_
  refine ev_aload_n (X := M_L_law) (pc := 754) dL_law_754 rfl ?_
  refine ev_iload_n (X := M_L_law) (pc := 755) dL_law_755 rfl ?_
  refine ev_iconst (X := M_L_law) (pc := 756) dL_law_756 ?_
  refine ev_iadd (X := M_L_law) (pc := 757) dL_law_757 ?_
  refine ev_ialoadE (X := M_L_law) (pc := 758) dL_law_758 hk30 (by omega) (congrFun hv30 _) ?_
  refine ev_aload_n (X := M_L_law) (pc := 759) dL_law_759 rfl ?_
  refine ev_iload_n (X := M_L_law) (pc := 760) dL_law_760 rfl ?_
  refine ev_iconst (X := M_L_law) (pc := 761) dL_law_761 ?_
  refine ev_iadd (X := M_L_law) (pc := 762) dL_law_762 ?_
  refine ev_ialoadE (X := M_L_law) (pc := 763) dL_law_763 hk30 (by omega) (congrFun hv30 _) ?_
  refine ev_virtG (X := M_L_law) (Y := M_X12_ways) (pc := 764) (ci := 12) dL_law_764 mk_X12_ways rfl kw_1324 kw_1325 kw_1326 (lO_156 hL) hM rfl (Nat.lt_of_le_of_lt d2 (by decide)) rfl (Nat.le_of_ble_eq_true rfl) (Nat.zero_add _) (Nat.zero_add _) (fun K2 V2 hq2 => ?_)
  have hI := hI K2 V2 hq2
  refine ev_lcmpS (X := M_L_law) (pc := 767) dL_law_767 ?_
  refine ev_if_eq (X := M_L_law) (pc := 768) (tgt := 1255) dL_law_768 (by decide) (by decide) (fun _ => ?_) (fun q => absurd rfl q)
  refine ev_iincL (X := M_L_law) (pc := 1255) (ls' := [_, _, _, _]) dL_law_1255 rfl (by decide) rfl ?_
  refine ev_goto (X := M_L_law) (pc := 1258) (tgt := 18) dL_law_1258 (by decide) ?_
  exact ev_less (ih _ _ hI) (by omega) (by omega)
theorem lc_allWays {γ : Gh} {n : Int} {L : Nat} {g : Int → Int} {K : Sk} {V : Mm} {mc ms : Nat} {i : Int} {Q : Option PV → Sk → Mm → Prop} (h : Inv n L g K V) (hg : ∀ j, R32 (g j)) (hi : 0 ≤ i ∧ i + 6 ≤ L) (hn : n < 1000) (ih : ∀ K2 V2, Inv (n + 1) L g K2 V2 → Ev γ M_L_law 60 mc ms 18 [vR 30, vR 100, vR 156, vI (i + 6)] [] K2 V2 Q) : Ev γ M_L_law 60 (4 + mc) (108 + ms) 773 [vR 30, vR 100, vR 156, vI i] [] K V Q := by
  obtain ⟨D, E, im, er, h⟩ := h
  have hL := h.1.1.L
  obtain ⟨hk30, hv30⟩ := h.s30
  obtain ⟨x, dc, dm, Q1, d1, d2, hC, hR⟩ := st_allWays (γ := γ) h (hg (i + 1))
  clear h
  refine ev_aload_n (X := M_L_law) (pc := 773) dL_law_773 rfl ?_
  refine ev_aload_n (X := M_L_law) (pc := 774) dL_law_774 rfl ?_
  refine ev_iload_n (X := M_L_law) (pc := 775) dL_law_775 rfl ?_
  refine ev_iconst (X := M_L_law) (pc := 776) dL_law_776 ?_
  refine ev_iadd (X := M_L_law) (pc := 777) dL_law_777 ?_
  refine ev_ialoadE (X := M_L_law) (pc := 778) dL_law_778 hk30 (by omega) (congrFun hv30 _) ?_
  refine ev_virtG (X := M_L_law) (Y := M_X11_allWays) (pc := 779) (ci := 11) dL_law_779 mk_X11_allWays rfl kw_746 kw_747 kw_748 (lO_100 hL) hC rfl (Nat.lt_of_le_of_lt d1 (by decide)) rfl (Nat.le_of_ble_eq_true rfl) (Nat.zero_add _) (Nat.zero_add _) (fun K1 V1 hq1 => ?_)
  obtain ⟨⟨hL, hk30, hv30⟩, Q2, hM, hI⟩ := hR K1 V1 hq1
  refine ev_aload_n (X := M_L_law) (pc := 782) dL_law_782 rfl ?_
  refine ev_aload_n (X := M_L_law) (pc := 783) dL_law_783 rfl ?_
  refine ev_iload_n (X := M_L_law) (pc := 784) dL_law_784 rfl ?_
  refine ev_iconst (X := M_L_law) (pc := 785) dL_law_785 ?_
  refine ev_iadd (X := M_L_law) (pc := 786) dL_law_786 ?_
  refine ev_ialoadE (X := M_L_law) (pc := 787) dL_law_787 hk30 (by omega) (congrFun hv30 _) ?_
  refine ev_virtG (X := M_L_law) (Y := M_X12_allWays) (pc := 788) (ci := 12) dL_law_788 mk_X12_allWays rfl kw_1332 kw_1333 kw_1334 (lO_156 hL) hM rfl (Nat.lt_of_le_of_lt d2 (by decide)) rfl (Nat.le_of_ble_eq_true rfl) (Nat.zero_add _) (Nat.zero_add _) (fun K2 V2 hq2 => ?_)
  have hI := hI K2 V2 hq2
  refine ev_lcmpS (X := M_L_law) (pc := 791) dL_law_791 ?_
  refine ev_if_eq (X := M_L_law) (pc := 792) (tgt := 1255) dL_law_792 (by decide) (by decide) (fun _ => ?_) (fun q => absurd rfl q)
  refine ev_iincL (X := M_L_law) (pc := 1255) (ls' := [_, _, _, _]) dL_law_1255 rfl (by decide) rfl ?_
  refine ev_goto (X := M_L_law) (pc := 1258) (tgt := 18) dL_law_1258 (by decide) ?_
  exact ev_less (ih _ _ hI) (by omega) (by omega)
theorem lc_fences {γ : Gh} {n : Int} {L : Nat} {g : Int → Int} {K : Sk} {V : Mm} {mc ms : Nat} {i : Int} {Q : Option PV → Sk → Mm → Prop} (h : Inv n L g K V) (hg : ∀ j, R32 (g j)) (hi : 0 ≤ i ∧ i + 6 ≤ L) (hn : n < 1000) (ih : ∀ K2 V2, Inv (n + 1) L g K2 V2 → Ev γ M_L_law 60 mc ms 18 [vR 30, vR 100, vR 156, vI (i + 6)] [] K2 V2 Q) : Ev γ M_L_law 60 (4 + mc) (108 + ms) 797 [vR 30, vR 100, vR 156, vI i] [] K V Q := by
  obtain ⟨D, E, im, er, h⟩ := h
  have hL := h.1.1.L
  obtain ⟨hk30, hv30⟩ := h.s30
  obtain ⟨x, dc, dm, Q1, d1, d2, hC, hR⟩ := st_fences (γ := γ) h (hg (i + 1)) (hg (i + 2))
  clear h
  refine ev_aload_n (X := M_L_law) (pc := 797) dL_law_797 rfl ?_
  refine ev_aload_n (X := M_L_law) (pc := 798) dL_law_798 rfl ?_
  refine ev_iload_n (X := M_L_law) (pc := 799) dL_law_799 rfl ?_
  refine ev_iconst (X := M_L_law) (pc := 800) dL_law_800 ?_
  refine ev_iadd (X := M_L_law) (pc := 801) dL_law_801 ?_
  refine ev_ialoadE (X := M_L_law) (pc := 802) dL_law_802 hk30 (by omega) (congrFun hv30 _) ?_
  refine ev_aload_n (X := M_L_law) (pc := 803) dL_law_803 rfl ?_
  refine ev_iload_n (X := M_L_law) (pc := 804) dL_law_804 rfl ?_
  refine ev_iconst (X := M_L_law) (pc := 805) dL_law_805 ?_
  refine ev_iadd (X := M_L_law) (pc := 806) dL_law_806 ?_
  refine ev_ialoadE (X := M_L_law) (pc := 807) dL_law_807 hk30 (by omega) (congrFun hv30 _) ?_
  refine ev_virtG (X := M_L_law) (Y := M_X11_fences) (pc := 808) (ci := 11) dL_law_808 mk_X11_fences rfl kw_754 kw_755 kw_756 (lO_100 hL) hC rfl (Nat.lt_of_le_of_lt d1 (by decide)) rfl (Nat.le_of_ble_eq_true rfl) (Nat.zero_add _) (Nat.zero_add _) (fun K1 V1 hq1 => ?_)
  obtain ⟨⟨hL, hk30, hv30⟩, Q2, hM, hI⟩ := hR K1 V1 hq1
  refine ev_aload_n (X := M_L_law) (pc := 811) dL_law_811 rfl ?_
  refine ev_aload_n (X := M_L_law) (pc := 812) dL_law_812 rfl ?_
  refine ev_iload_n (X := M_L_law) (pc := 813) dL_law_813 rfl ?_
  refine ev_iconst (X := M_L_law) (pc := 814) dL_law_814 ?_
  refine ev_iadd (X := M_L_law) (pc := 815) dL_law_815 ?_
  refine ev_ialoadE (X := M_L_law) (pc := 816) dL_law_816 hk30 (by omega) (congrFun hv30 _) ?_
  refine ev_aload_n (X := M_L_law) (pc := 817) dL_law_817 rfl ?_
  refine ev_iload_n (X := M_L_law) (pc := 818) dL_law_818 rfl ?_
  refine ev_iconst (X := M_L_law) (pc := 819) dL_law_819 ?_
  refine ev_iadd (X := M_L_law) (pc := 820) dL_law_820 ?_
  refine ev_ialoadE (X := M_L_law) (pc := 821) dL_law_821 hk30 (by omega) (congrFun hv30 _) ?_
  refine ev_virtG (X := M_L_law) (Y := M_X12_fences) (pc := 822) (ci := 12) dL_law_822 mk_X12_fences rfl kw_1336 kw_1337 kw_1338 (lO_156 hL) hM rfl (Nat.lt_of_le_of_lt d2 (by decide)) rfl (Nat.le_of_ble_eq_true rfl) (Nat.zero_add _) (Nat.zero_add _) (fun K2 V2 hq2 => ?_)
  have hI := hI K2 V2 hq2
  refine ev_icmp_eqS (X := M_L_law) (pc := 825) (tgt := 1255) dL_law_825 (by decide) ?_
  refine ev_iincL (X := M_L_law) (pc := 1255) (ls' := [_, _, _, _]) dL_law_1255 rfl (by decide) rfl ?_
  refine ev_goto (X := M_L_law) (pc := 1258) (tgt := 18) dL_law_1258 (by decide) ?_
  exact ev_less (ih _ _ hI) (by omega) (by omega)
theorem lc_was {γ : Gh} {n : Int} {L : Nat} {g : Int → Int} {K : Sk} {V : Mm} {mc ms : Nat} {i : Int} {Q : Option PV → Sk → Mm → Prop} (h : Inv n L g K V) (hg : ∀ j, R32 (g j)) (hi : 0 ≤ i ∧ i + 6 ≤ L) (hn : n < 1000) (ih : ∀ K2 V2, Inv (n + 1) L g K2 V2 → Ev γ M_L_law 60 mc ms 18 [vR 30, vR 100, vR 156, vI (i + 6)] [] K2 V2 Q) : Ev γ M_L_law 60 (4 + mc) (108 + ms) 830 [vR 30, vR 100, vR 156, vI i] [] K V Q := by
  obtain ⟨D, E, im, er, h⟩ := h
  have hL := h.1.1.L
  obtain ⟨hk30, hv30⟩ := h.s30
  obtain ⟨x, dc, dm, Q1, d1, d2, hC, hR⟩ := st_was (γ := γ) h (hg (i + 1)) (hg (i + 2))
  clear h
  refine ev_aload_n (X := M_L_law) (pc := 830) dL_law_830 rfl ?_
  refine ev_aload_n (X := M_L_law) (pc := 831) dL_law_831 rfl ?_
  refine ev_iload_n (X := M_L_law) (pc := 832) dL_law_832 rfl ?_
  refine ev_iconst (X := M_L_law) (pc := 833) dL_law_833 ?_
  refine ev_iadd (X := M_L_law) (pc := 834) dL_law_834 ?_
  refine ev_ialoadE (X := M_L_law) (pc := 835) dL_law_835 hk30 (by omega) (congrFun hv30 _) ?_
  refine ev_aload_n (X := M_L_law) (pc := 836) dL_law_836 rfl ?_
  refine ev_iload_n (X := M_L_law) (pc := 837) dL_law_837 rfl ?_
  refine ev_iconst (X := M_L_law) (pc := 838) dL_law_838 ?_
  refine ev_iadd (X := M_L_law) (pc := 839) dL_law_839 ?_
  refine ev_ialoadE (X := M_L_law) (pc := 840) dL_law_840 hk30 (by omega) (congrFun hv30 _) ?_
  refine ev_virtG (X := M_L_law) (Y := M_X11_was) (pc := 841) (ci := 11) dL_law_841 mk_X11_was rfl kw_785 kw_786 kw_787 (lO_100 hL) hC rfl (Nat.lt_of_le_of_lt d1 (by decide)) rfl (Nat.le_of_ble_eq_true rfl) (Nat.zero_add _) (Nat.zero_add _) (fun K1 V1 hq1 => ?_)
  obtain ⟨⟨hL, hk30, hv30⟩, Q2, hM, hI⟩ := hR K1 V1 hq1
  refine ev_aload_n (X := M_L_law) (pc := 844) dL_law_844 rfl ?_
  refine ev_aload_n (X := M_L_law) (pc := 845) dL_law_845 rfl ?_
  refine ev_iload_n (X := M_L_law) (pc := 846) dL_law_846 rfl ?_
  refine ev_iconst (X := M_L_law) (pc := 847) dL_law_847 ?_
  refine ev_iadd (X := M_L_law) (pc := 848) dL_law_848 ?_
  refine ev_ialoadE (X := M_L_law) (pc := 849) dL_law_849 hk30 (by omega) (congrFun hv30 _) ?_
  refine ev_aload_n (X := M_L_law) (pc := 850) dL_law_850 rfl ?_
  refine ev_iload_n (X := M_L_law) (pc := 851) dL_law_851 rfl ?_
  refine ev_iconst (X := M_L_law) (pc := 852) dL_law_852 ?_
  refine ev_iadd (X := M_L_law) (pc := 853) dL_law_853 ?_
  refine ev_ialoadE (X := M_L_law) (pc := 854) dL_law_854 hk30 (by omega) (congrFun hv30 _) ?_
  refine ev_virtG (X := M_L_law) (Y := M_X12_was) (pc := 855) (ci := 12) dL_law_855 mk_X12_was rfl kw_1347 kw_1348 kw_1349 (lO_156 hL) hM rfl (Nat.lt_of_le_of_lt d2 (by decide)) rfl (Nat.le_of_ble_eq_true rfl) (Nat.zero_add _) (Nat.zero_add _) (fun K2 V2 hq2 => ?_)
  have hI := hI K2 V2 hq2
  refine ev_icmp_eqS (X := M_L_law) (pc := 858) (tgt := 1255) dL_law_858 (by decide) ?_
  refine ev_iincL (X := M_L_law) (pc := 1255) (ls' := [_, _, _, _]) dL_law_1255 rfl (by decide) rfl ?_
  refine ev_goto (X := M_L_law) (pc := 1258) (tgt := 18) dL_law_1258 (by decide) ?_
  exact ev_less (ih _ _ hI) (by omega) (by omega)
theorem lc_force {γ : Gh} {n : Int} {L : Nat} {g : Int → Int} {K : Sk} {V : Mm} {mc ms : Nat} {i : Int} {Q : Option PV → Sk → Mm → Prop} (h : Inv n L g K V) (hg : ∀ j, R32 (g j)) (hi : 0 ≤ i ∧ i + 6 ≤ L) (hn : n < 1000) (ih : ∀ K2 V2, Inv (n + 1) L g K2 V2 → Ev γ M_L_law 60 mc ms 18 [vR 30, vR 100, vR 156, vI (i + 6)] [] K2 V2 Q) : Ev γ M_L_law 60 (4 + mc) (108 + ms) 863 [vR 30, vR 100, vR 156, vI i] [] K V Q := by
  obtain ⟨D, E, im, er, h⟩ := h
  have hL := h.1.1.L
  obtain ⟨hk30, hv30⟩ := h.s30
  obtain ⟨x, dc, dm, Q1, d1, d2, hC, hR⟩ := st_force (γ := γ) h (hg (i + 1))
  clear h
  refine ev_aload_n (X := M_L_law) (pc := 863) dL_law_863 rfl ?_
  refine ev_aload_n (X := M_L_law) (pc := 864) dL_law_864 rfl ?_
  refine ev_iload_n (X := M_L_law) (pc := 865) dL_law_865 rfl ?_
  refine ev_iconst (X := M_L_law) (pc := 866) dL_law_866 ?_
  refine ev_iadd (X := M_L_law) (pc := 867) dL_law_867 ?_
  refine ev_ialoadE (X := M_L_law) (pc := 868) dL_law_868 hk30 (by omega) (congrFun hv30 _) ?_
  refine ev_virtG (X := M_L_law) (Y := M_X11_force) (pc := 869) (ci := 11) dL_law_869 mk_X11_force rfl kw_805 kw_806 kw_807 (lO_100 hL) hC rfl (Nat.lt_of_le_of_lt d1 (by decide)) rfl (Nat.le_of_ble_eq_true rfl) (Nat.zero_add _) (Nat.zero_add _) (fun K1 V1 hq1 => ?_)
  obtain ⟨⟨hL, hk30, hv30⟩, Q2, hM, hI⟩ := hR K1 V1 hq1
  refine ev_aload_n (X := M_L_law) (pc := 872) dL_law_872 rfl ?_
  refine ev_aload_n (X := M_L_law) (pc := 873) dL_law_873 rfl ?_
  refine ev_iload_n (X := M_L_law) (pc := 874) dL_law_874 rfl ?_
  refine ev_iconst (X := M_L_law) (pc := 875) dL_law_875 ?_
  refine ev_iadd (X := M_L_law) (pc := 876) dL_law_876 ?_
  refine ev_ialoadE (X := M_L_law) (pc := 877) dL_law_877 hk30 (by omega) (congrFun hv30 _) ?_
  refine ev_virtG (X := M_L_law) (Y := M_X12_force) (pc := 878) (ci := 12) dL_law_878 mk_X12_force rfl kw_1351 kw_1352 kw_1353 (lO_156 hL) hM rfl (Nat.lt_of_le_of_lt d2 (by decide)) rfl (Nat.le_of_ble_eq_true rfl) (Nat.zero_add _) (Nat.zero_add _) (fun K2 V2 hq2 => ?_)
  have hI := hI K2 V2 hq2
  refine ev_icmp_eqS (X := M_L_law) (pc := 881) (tgt := 1255) dL_law_881 (by decide) ?_
  refine ev_iincL (X := M_L_law) (pc := 1255) (ls' := [_, _, _, _]) dL_law_1255 rfl (by decide) rfl ?_
  refine ev_goto (X := M_L_law) (pc := 1258) (tgt := 18) dL_law_1258 (by decide) ?_
  exact ev_less (ih _ _ hI) (by omega) (by omega)
theorem lc_seed {γ : Gh} {n : Int} {L : Nat} {g : Int → Int} {K : Sk} {V : Mm} {mc ms : Nat} {i : Int} {Q : Option PV → Sk → Mm → Prop} (h : Inv n L g K V) (hg : ∀ j, R32 (g j)) (hi : 0 ≤ i ∧ i + 6 ≤ L) (hn : n < 1000) (ih : ∀ K2 V2, Inv (n + 1) L g K2 V2 → Ev γ M_L_law 60 mc ms 18 [vR 30, vR 100, vR 156, vI (i + 6)] [] K2 V2 Q) : Ev γ M_L_law 60 (4 + mc) (108 + ms) 886 [vR 30, vR 100, vR 156, vI i] [] K V Q := by
  obtain ⟨D, E, im, er, h⟩ := h
  have hL := h.1.1.L
  obtain ⟨hk30, hv30⟩ := h.s30
  obtain ⟨x, dc, dm, Q1, d1, d2, hC, hR⟩ := st_seed (γ := γ) (v := g (i + 1)) h
  clear h
  refine ev_aload_n (X := M_L_law) (pc := 886) dL_law_886 rfl ?_
  refine ev_aload_n (X := M_L_law) (pc := 887) dL_law_887 rfl ?_
  refine ev_iload_n (X := M_L_law) (pc := 888) dL_law_888 rfl ?_
  refine ev_iconst (X := M_L_law) (pc := 889) dL_law_889 ?_
  refine ev_iadd (X := M_L_law) (pc := 890) dL_law_890 ?_
  refine ev_ialoadE (X := M_L_law) (pc := 891) dL_law_891 hk30 (by omega) (congrFun hv30 _) ?_
  refine ev_virtG (X := M_L_law) (Y := M_X11_seed) (pc := 892) (ci := 11) dL_law_892 mk_X11_seed rfl kw_818 kw_819 kw_820 (lO_100 hL) hC rfl (Nat.lt_of_le_of_lt d1 (by decide)) rfl (Nat.le_of_ble_eq_true rfl) (Nat.zero_add _) (Nat.zero_add _) (fun K1 V1 hq1 => ?_)
  obtain ⟨⟨hL, hk30, hv30⟩, Q2, hM, hI⟩ := hR K1 V1 hq1
  refine ev_aload_n (X := M_L_law) (pc := 895) dL_law_895 rfl ?_
  refine ev_aload_n (X := M_L_law) (pc := 896) dL_law_896 rfl ?_
  refine ev_iload_n (X := M_L_law) (pc := 897) dL_law_897 rfl ?_
  refine ev_iconst (X := M_L_law) (pc := 898) dL_law_898 ?_
  refine ev_iadd (X := M_L_law) (pc := 899) dL_law_899 ?_
  refine ev_ialoadE (X := M_L_law) (pc := 900) dL_law_900 hk30 (by omega) (congrFun hv30 _) ?_
  refine ev_virtG (X := M_L_law) (Y := M_X12_seed) (pc := 901) (ci := 12) dL_law_901 mk_X12_seed rfl kw_1359 kw_1360 kw_1361 (lO_156 hL) hM rfl (Nat.lt_of_le_of_lt d2 (by decide)) rfl (Nat.le_of_ble_eq_true rfl) (Nat.zero_add _) (Nat.zero_add _) (fun K2 V2 hq2 => ?_)
  have hI := hI K2 V2 hq2
  refine ev_icmp_eqS (X := M_L_law) (pc := 904) (tgt := 1255) dL_law_904 (by decide) ?_
  refine ev_iincL (X := M_L_law) (pc := 1255) (ls' := [_, _, _, _]) dL_law_1255 rfl (by decide) rfl ?_
  refine ev_goto (X := M_L_law) (pc := 1258) (tgt := 18) dL_law_1258 (by decide) ?_
  exact ev_less (ih _ _ hI) (by omega) (by omega)
theorem lc_voice {γ : Gh} {n : Int} {L : Nat} {g : Int → Int} {K : Sk} {V : Mm} {mc ms : Nat} {i : Int} {Q : Option PV → Sk → Mm → Prop} (h : Inv n L g K V) (hg : ∀ j, R32 (g j)) (hi : 0 ≤ i ∧ i + 6 ≤ L) (hn : n < 1000) (ih : ∀ K2 V2, Inv (n + 1) L g K2 V2 → Ev γ M_L_law 60 mc ms 18 [vR 30, vR 100, vR 156, vI (i + 6)] [] K2 V2 Q) : Ev γ M_L_law 60 (4 + mc) (108 + ms) 909 [vR 30, vR 100, vR 156, vI i] [] K V Q := by
  obtain ⟨D, E, im, er, h⟩ := h
  have hL := h.1.1.L
  obtain ⟨hk30, hv30⟩ := h.s30
  obtain ⟨x, dc, dm, Q1, d1, d2, hC, hR⟩ := st_voice (γ := γ) (x := g (i + 3)) h (hg (i + 1)) (hg (i + 2))
  clear h
  refine ev_aload_n (X := M_L_law) (pc := 909) dL_law_909 rfl ?_
  refine ev_aload_n (X := M_L_law) (pc := 910) dL_law_910 rfl ?_
  refine ev_iload_n (X := M_L_law) (pc := 911) dL_law_911 rfl ?_
  refine ev_iconst (X := M_L_law) (pc := 912) dL_law_912 ?_
  refine ev_iadd (X := M_L_law) (pc := 913) dL_law_913 ?_
  refine ev_ialoadE (X := M_L_law) (pc := 914) dL_law_914 hk30 (by omega) (congrFun hv30 _) ?_
  refine ev_aload_n (X := M_L_law) (pc := 915) dL_law_915 rfl ?_
  refine ev_iload_n (X := M_L_law) (pc := 916) dL_law_916 rfl ?_
  refine ev_iconst (X := M_L_law) (pc := 917) dL_law_917 ?_
  refine ev_iadd (X := M_L_law) (pc := 918) dL_law_918 ?_
  refine ev_ialoadE (X := M_L_law) (pc := 919) dL_law_919 hk30 (by omega) (congrFun hv30 _) ?_
  refine ev_aload_n (X := M_L_law) (pc := 920) dL_law_920 rfl ?_
  refine ev_iload_n (X := M_L_law) (pc := 921) dL_law_921 rfl ?_
  refine ev_iconst (X := M_L_law) (pc := 922) dL_law_922 ?_
  refine ev_iadd (X := M_L_law) (pc := 923) dL_law_923 ?_
  refine ev_ialoadE (X := M_L_law) (pc := 924) dL_law_924 hk30 (by omega) (congrFun hv30 _) ?_
  refine ev_virtG (X := M_L_law) (Y := M_X11_voice) (pc := 925) (ci := 11) dL_law_925 mk_X11_voice rfl kw_822 kw_823 kw_824 (lO_100 hL) hC rfl (Nat.lt_of_le_of_lt d1 (by decide)) rfl (Nat.le_of_ble_eq_true rfl) (Nat.zero_add _) (Nat.zero_add _) (fun K1 V1 hq1 => ?_)
  obtain ⟨⟨hL, hk30, hv30⟩, Q2, hM, hI⟩ := hR K1 V1 hq1
  refine ev_aload_n (X := M_L_law) (pc := 928) dL_law_928 rfl ?_
  refine ev_aload_n (X := M_L_law) (pc := 929) dL_law_929 rfl ?_
  refine ev_iload_n (X := M_L_law) (pc := 930) dL_law_930 rfl ?_
  refine ev_iconst (X := M_L_law) (pc := 931) dL_law_931 ?_
  refine ev_iadd (X := M_L_law) (pc := 932) dL_law_932 ?_
  refine ev_ialoadE (X := M_L_law) (pc := 933) dL_law_933 hk30 (by omega) (congrFun hv30 _) ?_
  refine ev_aload_n (X := M_L_law) (pc := 934) dL_law_934 rfl ?_
  refine ev_iload_n (X := M_L_law) (pc := 935) dL_law_935 rfl ?_
  refine ev_iconst (X := M_L_law) (pc := 936) dL_law_936 ?_
  refine ev_iadd (X := M_L_law) (pc := 937) dL_law_937 ?_
  refine ev_ialoadE (X := M_L_law) (pc := 938) dL_law_938 hk30 (by omega) (congrFun hv30 _) ?_
  refine ev_aload_n (X := M_L_law) (pc := 939) dL_law_939 rfl ?_
  refine ev_iload_n (X := M_L_law) (pc := 940) dL_law_940 rfl ?_
  refine ev_iconst (X := M_L_law) (pc := 941) dL_law_941 ?_
  refine ev_iadd (X := M_L_law) (pc := 942) dL_law_942 ?_
  refine ev_ialoadE (X := M_L_law) (pc := 943) dL_law_943 hk30 (by omega) (congrFun hv30 _) ?_
  refine ev_virtG (X := M_L_law) (Y := M_X12_voice) (pc := 944) (ci := 12) dL_law_944 mk_X12_voice rfl kw_1363 kw_1364 kw_1365 (lO_156 hL) hM rfl (Nat.lt_of_le_of_lt d2 (by decide)) rfl (Nat.le_of_ble_eq_true rfl) (Nat.zero_add _) (Nat.zero_add _) (fun K2 V2 hq2 => ?_)
  have hI := hI K2 V2 hq2
  refine ev_icmp_eqS (X := M_L_law) (pc := 947) (tgt := 1255) dL_law_947 (by decide) ?_
  refine ev_iincL (X := M_L_law) (pc := 1255) (ls' := [_, _, _, _]) dL_law_1255 rfl (by decide) rfl ?_
  refine ev_goto (X := M_L_law) (pc := 1258) (tgt := 18) dL_law_1258 (by decide) ?_
  exact ev_less (ih _ _ hI) (by omega) (by omega)
theorem lc_trace {γ : Gh} {n : Int} {L : Nat} {g : Int → Int} {K : Sk} {V : Mm} {mc ms : Nat} {i : Int} {Q : Option PV → Sk → Mm → Prop} (h : Inv n L g K V) (hg : ∀ j, R32 (g j)) (hi : 0 ≤ i ∧ i + 6 ≤ L) (hn : n < 1000) (ih : ∀ K2 V2, Inv (n + 1) L g K2 V2 → Ev γ M_L_law 60 mc ms 18 [vR 30, vR 100, vR 156, vI (i + 6)] [] K2 V2 Q) : Ev γ M_L_law 60 (4 + mc) (108 + ms) 952 [vR 30, vR 100, vR 156, vI i] [] K V Q := by
  obtain ⟨D, E, im, er, h⟩ := h
  have hL := h.1.1.L
  obtain ⟨hk30, hv30⟩ := h.s30
  obtain ⟨x, dc, dm, Q1, d1, d2, hC, hR⟩ := st_trace (γ := γ) h (hg (i + 1))
  clear h
  refine ev_aload_n (X := M_L_law) (pc := 952) dL_law_952 rfl ?_
  refine ev_aload_n (X := M_L_law) (pc := 953) dL_law_953 rfl ?_
  refine ev_iload_n (X := M_L_law) (pc := 954) dL_law_954 rfl ?_
  refine ev_iconst (X := M_L_law) (pc := 955) dL_law_955 ?_
  refine ev_iadd (X := M_L_law) (pc := 956) dL_law_956 ?_
  refine ev_ialoadE (X := M_L_law) (pc := 957) dL_law_957 hk30 (by omega) (congrFun hv30 _) ?_
  refine ev_virtG (X := M_L_law) (Y := M_X11_trace) (pc := 958) (ci := 11) dL_law_958 mk_X11_trace rfl kw_909 kw_910 kw_911 (lO_100 hL) hC rfl (Nat.lt_of_le_of_lt d1 (by decide)) rfl (Nat.le_of_ble_eq_true rfl) (Nat.zero_add _) (Nat.zero_add _) (fun K1 V1 hq1 => ?_)
  obtain ⟨⟨hL, hk30, hv30⟩, Q2, hM, hI⟩ := hR K1 V1 hq1
  refine ev_aload_n (X := M_L_law) (pc := 961) dL_law_961 rfl ?_
  refine ev_aload_n (X := M_L_law) (pc := 962) dL_law_962 rfl ?_
  refine ev_iload_n (X := M_L_law) (pc := 963) dL_law_963 rfl ?_
  refine ev_iconst (X := M_L_law) (pc := 964) dL_law_964 ?_
  refine ev_iadd (X := M_L_law) (pc := 965) dL_law_965 ?_
  refine ev_ialoadE (X := M_L_law) (pc := 966) dL_law_966 hk30 (by omega) (congrFun hv30 _) ?_
  refine ev_virtG (X := M_L_law) (Y := M_X12_trace) (pc := 967) (ci := 12) dL_law_967 mk_X12_trace rfl kw_1392 kw_1393 kw_1394 (lO_156 hL) hM rfl (Nat.lt_of_le_of_lt d2 (by decide)) rfl (Nat.le_of_ble_eq_true rfl) (Nat.zero_add _) (Nat.zero_add _) (fun K2 V2 hq2 => ?_)
  have hI := hI K2 V2 hq2
  refine ev_icmp_eqS (X := M_L_law) (pc := 970) (tgt := 1255) dL_law_970 (by decide) ?_
  refine ev_iincL (X := M_L_law) (pc := 1255) (ls' := [_, _, _, _]) dL_law_1255 rfl (by decide) rfl ?_
  refine ev_goto (X := M_L_law) (pc := 1258) (tgt := 18) dL_law_1258 (by decide) ?_
  exact ev_less (ih _ _ hI) (by omega) (by omega)
theorem lc_sheet {γ : Gh} {n : Int} {L : Nat} {g : Int → Int} {K : Sk} {V : Mm} {mc ms : Nat} {i : Int} {Q : Option PV → Sk → Mm → Prop} (h : Inv n L g K V) (hg : ∀ j, R32 (g j)) (hi : 0 ≤ i ∧ i + 6 ≤ L) (hn : n < 1000) (ih : ∀ K2 V2, Inv (n + 1) L g K2 V2 → Ev γ M_L_law 60 mc ms 18 [vR 30, vR 100, vR 156, vI (i + 6)] [] K2 V2 Q) : Ev γ M_L_law 60 (4 + mc) (108 + ms) 975 [vR 30, vR 100, vR 156, vI i] [] K V Q := by
  obtain ⟨D, E, im, er, h⟩ := h
  have hL := h.1.1.L
  obtain ⟨hk30, hv30⟩ := h.s30
  obtain ⟨x, dc, dm, Q1, d1, d2, hC, hR⟩ := st_sheet (γ := γ) h (hg (i + 1)) (hg (i + 2)) (hg (i + 3))
  clear h
  refine ev_aload_n (X := M_L_law) (pc := 975) dL_law_975 rfl ?_
  refine ev_aload_n (X := M_L_law) (pc := 976) dL_law_976 rfl ?_
  refine ev_iload_n (X := M_L_law) (pc := 977) dL_law_977 rfl ?_
  refine ev_iconst (X := M_L_law) (pc := 978) dL_law_978 ?_
  refine ev_iadd (X := M_L_law) (pc := 979) dL_law_979 ?_
  refine ev_ialoadE (X := M_L_law) (pc := 980) dL_law_980 hk30 (by omega) (congrFun hv30 _) ?_
  refine ev_aload_n (X := M_L_law) (pc := 981) dL_law_981 rfl ?_
  refine ev_iload_n (X := M_L_law) (pc := 982) dL_law_982 rfl ?_
  refine ev_iconst (X := M_L_law) (pc := 983) dL_law_983 ?_
  refine ev_iadd (X := M_L_law) (pc := 984) dL_law_984 ?_
  refine ev_ialoadE (X := M_L_law) (pc := 985) dL_law_985 hk30 (by omega) (congrFun hv30 _) ?_
  refine ev_aload_n (X := M_L_law) (pc := 986) dL_law_986 rfl ?_
  refine ev_iload_n (X := M_L_law) (pc := 987) dL_law_987 rfl ?_
  refine ev_iconst (X := M_L_law) (pc := 988) dL_law_988 ?_
  refine ev_iadd (X := M_L_law) (pc := 989) dL_law_989 ?_
  refine ev_ialoadE (X := M_L_law) (pc := 990) dL_law_990 hk30 (by omega) (congrFun hv30 _) ?_
  refine ev_virtG (X := M_L_law) (Y := M_X11_sheet) (pc := 991) (ci := 11) dL_law_991 mk_X11_sheet rfl kw_917 kw_918 kw_919 (lO_100 hL) hC rfl (Nat.lt_of_le_of_lt d1 (by decide)) rfl (Nat.le_of_ble_eq_true rfl) (Nat.zero_add _) (Nat.zero_add _) (fun K1 V1 hq1 => ?_)
  obtain ⟨⟨hL, hk30, hv30⟩, Q2, hM, hI⟩ := hR K1 V1 hq1
  refine ev_aload_n (X := M_L_law) (pc := 994) dL_law_994 rfl ?_
  refine ev_aload_n (X := M_L_law) (pc := 995) dL_law_995 rfl ?_
  refine ev_iload_n (X := M_L_law) (pc := 996) dL_law_996 rfl ?_
  refine ev_iconst (X := M_L_law) (pc := 997) dL_law_997 ?_
  refine ev_iadd (X := M_L_law) (pc := 998) dL_law_998 ?_
  refine ev_ialoadE (X := M_L_law) (pc := 999) dL_law_999 hk30 (by omega) (congrFun hv30 _) ?_
  refine ev_aload_n (X := M_L_law) (pc := 1000) dL_law_1000 rfl ?_
  refine ev_iload_n (X := M_L_law) (pc := 1001) dL_law_1001 rfl ?_
  refine ev_iconst (X := M_L_law) (pc := 1002) dL_law_1002 ?_
  refine ev_iadd (X := M_L_law) (pc := 1003) dL_law_1003 ?_
  refine ev_ialoadE (X := M_L_law) (pc := 1004) dL_law_1004 hk30 (by omega) (congrFun hv30 _) ?_
  refine ev_aload_n (X := M_L_law) (pc := 1005) dL_law_1005 rfl ?_
  refine ev_iload_n (X := M_L_law) (pc := 1006) dL_law_1006 rfl ?_
  refine ev_iconst (X := M_L_law) (pc := 1007) dL_law_1007 ?_
  refine ev_iadd (X := M_L_law) (pc := 1008) dL_law_1008 ?_
  refine ev_ialoadE (X := M_L_law) (pc := 1009) dL_law_1009 hk30 (by omega) (congrFun hv30 _) ?_
  refine ev_virtG (X := M_L_law) (Y := M_X12_sheet) (pc := 1010) (ci := 12) dL_law_1010 mk_X12_sheet rfl kw_1396 kw_1397 kw_1398 (lO_156 hL) hM rfl (Nat.lt_of_le_of_lt d2 (by decide)) rfl (Nat.le_of_ble_eq_true rfl) (Nat.zero_add _) (Nat.zero_add _) (fun K2 V2 hq2 => ?_)
  have hI := hI K2 V2 hq2
  refine ev_icmp_eqS (X := M_L_law) (pc := 1013) (tgt := 1255) dL_law_1013 (by decide) ?_
  refine ev_iincL (X := M_L_law) (pc := 1255) (ls' := [_, _, _, _]) dL_law_1255 rfl (by decide) rfl ?_
  refine ev_goto (X := M_L_law) (pc := 1258) (tgt := 18) dL_law_1258 (by decide) ?_
  exact ev_less (ih _ _ hI) (by omega) (by omega)
theorem lc_put {γ : Gh} {n : Int} {L : Nat} {g : Int → Int} {K : Sk} {V : Mm} {mc ms : Nat} {i : Int} {Q : Option PV → Sk → Mm → Prop} (h : Inv n L g K V) (hg : ∀ j, R32 (g j)) (hi : 0 ≤ i ∧ i + 6 ≤ L) (hn : n < 1000) (ih : ∀ K2 V2, Inv (n + 1) L g K2 V2 → Ev γ M_L_law 60 mc ms 18 [vR 30, vR 100, vR 156, vI (i + 6)] [] K2 V2 Q) : Ev γ M_L_law 60 (4 + mc) (108 + ms) 1018 [vR 30, vR 100, vR 156, vI i] [] K V Q := by
  obtain ⟨D, E, im, er, h⟩ := h
  have hL := h.1.1.L
  obtain ⟨hk30, hv30⟩ := h.s30
  obtain ⟨x, dc, dm, Q1, d1, d2, hC, hR⟩ := st_put (γ := γ) h (hg (i + 1)) (hg (i + 2)) (hg (i + 3))
  clear h
  refine ev_aload_n (X := M_L_law) (pc := 1018) dL_law_1018 rfl ?_
  refine ev_aload_n (X := M_L_law) (pc := 1019) dL_law_1019 rfl ?_
  refine ev_iload_n (X := M_L_law) (pc := 1020) dL_law_1020 rfl ?_
  refine ev_iconst (X := M_L_law) (pc := 1021) dL_law_1021 ?_
  refine ev_iadd (X := M_L_law) (pc := 1022) dL_law_1022 ?_
  refine ev_ialoadE (X := M_L_law) (pc := 1023) dL_law_1023 hk30 (by omega) (congrFun hv30 _) ?_
  refine ev_aload_n (X := M_L_law) (pc := 1024) dL_law_1024 rfl ?_
  refine ev_iload_n (X := M_L_law) (pc := 1025) dL_law_1025 rfl ?_
  refine ev_iconst (X := M_L_law) (pc := 1026) dL_law_1026 ?_
  refine ev_iadd (X := M_L_law) (pc := 1027) dL_law_1027 ?_
  refine ev_ialoadE (X := M_L_law) (pc := 1028) dL_law_1028 hk30 (by omega) (congrFun hv30 _) ?_
  refine ev_aload_n (X := M_L_law) (pc := 1029) dL_law_1029 rfl ?_
  refine ev_iload_n (X := M_L_law) (pc := 1030) dL_law_1030 rfl ?_
  refine ev_iconst (X := M_L_law) (pc := 1031) dL_law_1031 ?_
  refine ev_iadd (X := M_L_law) (pc := 1032) dL_law_1032 ?_
  refine ev_ialoadE (X := M_L_law) (pc := 1033) dL_law_1033 hk30 (by omega) (congrFun hv30 _) ?_
  refine ev_virtG (X := M_L_law) (Y := M_X11_put) (pc := 1034) (ci := 11) dL_law_1034 mk_X11_put rfl kw_930 kw_931 kw_932 (lO_100 hL) hC rfl (Nat.lt_of_le_of_lt d1 (by decide)) rfl (Nat.le_of_ble_eq_true rfl) (Nat.zero_add _) (Nat.zero_add _) (fun K1 V1 hq1 => ?_)
  obtain ⟨⟨hL, hk30, hv30⟩, Q2, hM, hI⟩ := hR K1 V1 hq1
  refine ev_aload_n (X := M_L_law) (pc := 1037) dL_law_1037 rfl ?_
  refine ev_aload_n (X := M_L_law) (pc := 1038) dL_law_1038 rfl ?_
  refine ev_iload_n (X := M_L_law) (pc := 1039) dL_law_1039 rfl ?_
  refine ev_iconst (X := M_L_law) (pc := 1040) dL_law_1040 ?_
  refine ev_iadd (X := M_L_law) (pc := 1041) dL_law_1041 ?_
  refine ev_ialoadE (X := M_L_law) (pc := 1042) dL_law_1042 hk30 (by omega) (congrFun hv30 _) ?_
  refine ev_aload_n (X := M_L_law) (pc := 1043) dL_law_1043 rfl ?_
  refine ev_iload_n (X := M_L_law) (pc := 1044) dL_law_1044 rfl ?_
  refine ev_iconst (X := M_L_law) (pc := 1045) dL_law_1045 ?_
  refine ev_iadd (X := M_L_law) (pc := 1046) dL_law_1046 ?_
  refine ev_ialoadE (X := M_L_law) (pc := 1047) dL_law_1047 hk30 (by omega) (congrFun hv30 _) ?_
  refine ev_aload_n (X := M_L_law) (pc := 1048) dL_law_1048 rfl ?_
  refine ev_iload_n (X := M_L_law) (pc := 1049) dL_law_1049 rfl ?_
  refine ev_iconst (X := M_L_law) (pc := 1050) dL_law_1050 ?_
  refine ev_iadd (X := M_L_law) (pc := 1051) dL_law_1051 ?_
  refine ev_ialoadE (X := M_L_law) (pc := 1052) dL_law_1052 hk30 (by omega) (congrFun hv30 _) ?_
  refine ev_virtG (X := M_L_law) (Y := M_X12_put) (pc := 1053) (ci := 12) dL_law_1053 mk_X12_put rfl kw_1403 kw_1404 kw_1405 (lO_156 hL) hM rfl (Nat.lt_of_le_of_lt d2 (by decide)) rfl (Nat.le_of_ble_eq_true rfl) (Nat.zero_add _) (Nat.zero_add _) (fun K2 V2 hq2 => ?_)
  have hI := hI K2 V2 hq2
  refine ev_icmp_eqS (X := M_L_law) (pc := 1056) (tgt := 1255) dL_law_1056 (by decide) ?_
  refine ev_iincL (X := M_L_law) (pc := 1255) (ls' := [_, _, _, _]) dL_law_1255 rfl (by decide) rfl ?_
  refine ev_goto (X := M_L_law) (pc := 1258) (tgt := 18) dL_law_1258 (by decide) ?_
  exact ev_less (ih _ _ hI) (by omega) (by omega)
theorem lc_move {γ : Gh} {n : Int} {L : Nat} {g : Int → Int} {K : Sk} {V : Mm} {mc ms : Nat} {i : Int} {Q : Option PV → Sk → Mm → Prop} (h : Inv n L g K V) (hg : ∀ j, R32 (g j)) (hi : 0 ≤ i ∧ i + 6 ≤ L) (hn : n < 1000) (ih : ∀ K2 V2, Inv (n + 1) L g K2 V2 → Ev γ M_L_law 60 mc ms 18 [vR 30, vR 100, vR 156, vI (i + 6)] [] K2 V2 Q) : Ev γ M_L_law 60 (4 + mc) (108 + ms) 1061 [vR 30, vR 100, vR 156, vI i] [] K V Q := by
  obtain ⟨D, E, im, er, h⟩ := h
  have hL := h.1.1.L
  obtain ⟨hk30, hv30⟩ := h.s30
  obtain ⟨x, dc, dm, Q1, d1, d2, hC, hR⟩ := st_move (γ := γ) h (hg (i + 1)) (hg (i + 2)) (hg (i + 3)) (hg (i + 4)) (hg (i + 5))
  clear h
  refine ev_aload_n (X := M_L_law) (pc := 1061) dL_law_1061 rfl ?_
  refine ev_aload_n (X := M_L_law) (pc := 1062) dL_law_1062 rfl ?_
  refine ev_iload_n (X := M_L_law) (pc := 1063) dL_law_1063 rfl ?_
  refine ev_iconst (X := M_L_law) (pc := 1064) dL_law_1064 ?_
  refine ev_iadd (X := M_L_law) (pc := 1065) dL_law_1065 ?_
  refine ev_ialoadE (X := M_L_law) (pc := 1066) dL_law_1066 hk30 (by omega) (congrFun hv30 _) ?_
  refine ev_aload_n (X := M_L_law) (pc := 1067) dL_law_1067 rfl ?_
  refine ev_iload_n (X := M_L_law) (pc := 1068) dL_law_1068 rfl ?_
  refine ev_iconst (X := M_L_law) (pc := 1069) dL_law_1069 ?_
  refine ev_iadd (X := M_L_law) (pc := 1070) dL_law_1070 ?_
  refine ev_ialoadE (X := M_L_law) (pc := 1071) dL_law_1071 hk30 (by omega) (congrFun hv30 _) ?_
  refine ev_aload_n (X := M_L_law) (pc := 1072) dL_law_1072 rfl ?_
  refine ev_iload_n (X := M_L_law) (pc := 1073) dL_law_1073 rfl ?_
  refine ev_iconst (X := M_L_law) (pc := 1074) dL_law_1074 ?_
  refine ev_iadd (X := M_L_law) (pc := 1075) dL_law_1075 ?_
  refine ev_ialoadE (X := M_L_law) (pc := 1076) dL_law_1076 hk30 (by omega) (congrFun hv30 _) ?_
  refine ev_aload_n (X := M_L_law) (pc := 1077) dL_law_1077 rfl ?_
  refine ev_iload_n (X := M_L_law) (pc := 1078) dL_law_1078 rfl ?_
  refine ev_iconst (X := M_L_law) (pc := 1079) dL_law_1079 ?_
  refine ev_iadd (X := M_L_law) (pc := 1080) dL_law_1080 ?_
  refine ev_ialoadE (X := M_L_law) (pc := 1081) dL_law_1081 hk30 (by omega) (congrFun hv30 _) ?_
  refine ev_aload_n (X := M_L_law) (pc := 1082) dL_law_1082 rfl ?_
  refine ev_iload_n (X := M_L_law) (pc := 1083) dL_law_1083 rfl ?_
  refine ev_iconst (X := M_L_law) (pc := 1084) dL_law_1084 ?_
  refine ev_iadd (X := M_L_law) (pc := 1085) dL_law_1085 ?_
  refine ev_ialoadE (X := M_L_law) (pc := 1086) dL_law_1086 hk30 (by omega) (congrFun hv30 _) ?_
  refine ev_virtG (X := M_L_law) (Y := M_X11_move) (pc := 1087) (ci := 11) dL_law_1087 mk_X11_move rfl kw_934 kw_935 kw_936 (lO_100 hL) hC rfl (Nat.lt_of_le_of_lt d1 (by decide)) rfl (Nat.le_of_ble_eq_true rfl) (Nat.zero_add _) (Nat.zero_add _) (fun K1 V1 hq1 => ?_)
  obtain ⟨⟨hL, hk30, hv30⟩, Q2, hM, hI⟩ := hR K1 V1 hq1
  refine ev_aload_n (X := M_L_law) (pc := 1090) dL_law_1090 rfl ?_
  refine ev_aload_n (X := M_L_law) (pc := 1091) dL_law_1091 rfl ?_
  refine ev_iload_n (X := M_L_law) (pc := 1092) dL_law_1092 rfl ?_
  refine ev_iconst (X := M_L_law) (pc := 1093) dL_law_1093 ?_
  refine ev_iadd (X := M_L_law) (pc := 1094) dL_law_1094 ?_
  refine ev_ialoadE (X := M_L_law) (pc := 1095) dL_law_1095 hk30 (by omega) (congrFun hv30 _) ?_
  refine ev_aload_n (X := M_L_law) (pc := 1096) dL_law_1096 rfl ?_
  refine ev_iload_n (X := M_L_law) (pc := 1097) dL_law_1097 rfl ?_
  refine ev_iconst (X := M_L_law) (pc := 1098) dL_law_1098 ?_
  refine ev_iadd (X := M_L_law) (pc := 1099) dL_law_1099 ?_
  refine ev_ialoadE (X := M_L_law) (pc := 1100) dL_law_1100 hk30 (by omega) (congrFun hv30 _) ?_
  refine ev_aload_n (X := M_L_law) (pc := 1101) dL_law_1101 rfl ?_
  refine ev_iload_n (X := M_L_law) (pc := 1102) dL_law_1102 rfl ?_
  refine ev_iconst (X := M_L_law) (pc := 1103) dL_law_1103 ?_
  refine ev_iadd (X := M_L_law) (pc := 1104) dL_law_1104 ?_
  refine ev_ialoadE (X := M_L_law) (pc := 1105) dL_law_1105 hk30 (by omega) (congrFun hv30 _) ?_
  refine ev_aload_n (X := M_L_law) (pc := 1106) dL_law_1106 rfl ?_
  refine ev_iload_n (X := M_L_law) (pc := 1107) dL_law_1107 rfl ?_
  refine ev_iconst (X := M_L_law) (pc := 1108) dL_law_1108 ?_
  refine ev_iadd (X := M_L_law) (pc := 1109) dL_law_1109 ?_
  refine ev_ialoadE (X := M_L_law) (pc := 1110) dL_law_1110 hk30 (by omega) (congrFun hv30 _) ?_
  refine ev_aload_n (X := M_L_law) (pc := 1111) dL_law_1111 rfl ?_
  refine ev_iload_n (X := M_L_law) (pc := 1112) dL_law_1112 rfl ?_
  refine ev_iconst (X := M_L_law) (pc := 1113) dL_law_1113 ?_
  refine ev_iadd (X := M_L_law) (pc := 1114) dL_law_1114 ?_
  refine ev_ialoadE (X := M_L_law) (pc := 1115) dL_law_1115 hk30 (by omega) (congrFun hv30 _) ?_
  refine ev_virtG (X := M_L_law) (Y := M_X12_move) (pc := 1116) (ci := 12) dL_law_1116 mk_X12_move rfl kw_1407 kw_1408 kw_1409 (lO_156 hL) hM rfl (Nat.lt_of_le_of_lt d2 (by decide)) rfl (Nat.le_of_ble_eq_true rfl) (Nat.zero_add _) (Nat.zero_add _) (fun K2 V2 hq2 => ?_)
  have hI := hI K2 V2 hq2
  refine ev_icmp_eqS (X := M_L_law) (pc := 1119) (tgt := 1255) dL_law_1119 (by decide) ?_
  refine ev_iincL (X := M_L_law) (pc := 1255) (ls' := [_, _, _, _]) dL_law_1255 rfl (by decide) rfl ?_
  refine ev_goto (X := M_L_law) (pc := 1258) (tgt := 18) dL_law_1258 (by decide) ?_
  exact ev_less (ih _ _ hI) (by omega) (by omega)
theorem lc_judge {γ : Gh} {n : Int} {L : Nat} {g : Int → Int} {K : Sk} {V : Mm} {mc ms : Nat} {i : Int} {Q : Option PV → Sk → Mm → Prop} (h : Inv n L g K V) (hg : ∀ j, R32 (g j)) (hi : 0 ≤ i ∧ i + 6 ≤ L) (hn : n < 1000) (ih : ∀ K2 V2, Inv (n + 1) L g K2 V2 → Ev γ M_L_law 60 mc ms 18 [vR 30, vR 100, vR 156, vI (i + 6)] [] K2 V2 Q) : Ev γ M_L_law 60 (4 + mc) (108 + ms) 1124 [vR 30, vR 100, vR 156, vI i] [] K V Q := by
  obtain ⟨D, E, im, er, h⟩ := h
  have hL := h.1.1.L
  obtain ⟨hk30, hv30⟩ := h.s30
  obtain ⟨x, dc, dm, Q1, d1, d2, hC, hR⟩ := st_judge (γ := γ) h (hg (i + 1))
  clear h
  refine ev_aload_n (X := M_L_law) (pc := 1124) dL_law_1124 rfl ?_
  refine ev_aload_n (X := M_L_law) (pc := 1125) dL_law_1125 rfl ?_
  refine ev_iload_n (X := M_L_law) (pc := 1126) dL_law_1126 rfl ?_
  refine ev_iconst (X := M_L_law) (pc := 1127) dL_law_1127 ?_
  refine ev_iadd (X := M_L_law) (pc := 1128) dL_law_1128 ?_
  refine ev_ialoadE (X := M_L_law) (pc := 1129) dL_law_1129 hk30 (by omega) (congrFun hv30 _) ?_
  refine ev_virtG (X := M_L_law) (Y := M_X11_judge) (pc := 1130) (ci := 11) dL_law_1130 mk_X11_judge rfl kw_945 kw_946 kw_947 (lO_100 hL) hC rfl (Nat.lt_of_le_of_lt d1 (by decide)) rfl (Nat.le_of_ble_eq_true rfl) (Nat.zero_add _) (Nat.zero_add _) (fun K1 V1 hq1 => ?_)
  obtain ⟨⟨hL, hk30, hv30⟩, Q2, hM, hI⟩ := hR K1 V1 hq1
  refine ev_aload_n (X := M_L_law) (pc := 1133) dL_law_1133 rfl ?_
  refine ev_aload_n (X := M_L_law) (pc := 1134) dL_law_1134 rfl ?_
  refine ev_iload_n (X := M_L_law) (pc := 1135) dL_law_1135 rfl ?_
  refine ev_iconst (X := M_L_law) (pc := 1136) dL_law_1136 ?_
  refine ev_iadd (X := M_L_law) (pc := 1137) dL_law_1137 ?_
  refine ev_ialoadE (X := M_L_law) (pc := 1138) dL_law_1138 hk30 (by omega) (congrFun hv30 _) ?_
  refine ev_virtG (X := M_L_law) (Y := M_X12_judge) (pc := 1139) (ci := 12) dL_law_1139 mk_X12_judge rfl kw_1411 kw_1412 kw_1413 (lO_156 hL) hM rfl (Nat.lt_of_le_of_lt d2 (by decide)) rfl (Nat.le_of_ble_eq_true rfl) (Nat.zero_add _) (Nat.zero_add _) (fun K2 V2 hq2 => ?_)
  have hI := hI K2 V2 hq2
  refine ev_icmp_eqS (X := M_L_law) (pc := 1142) (tgt := 1255) dL_law_1142 (by decide) ?_
  refine ev_iincL (X := M_L_law) (pc := 1255) (ls' := [_, _, _, _]) dL_law_1255 rfl (by decide) rfl ?_
  refine ev_goto (X := M_L_law) (pc := 1258) (tgt := 18) dL_law_1258 (by decide) ?_
  exact ev_less (ih _ _ hI) (by omega) (by omega)
theorem lc_image {γ : Gh} {n : Int} {L : Nat} {g : Int → Int} {K : Sk} {V : Mm} {mc ms : Nat} {i : Int} {Q : Option PV → Sk → Mm → Prop} (h : Inv n L g K V) (hg : ∀ j, R32 (g j)) (hi : 0 ≤ i ∧ i + 6 ≤ L) (hn : n < 1000) (ih : ∀ K2 V2, Inv (n + 1) L g K2 V2 → Ev γ M_L_law 60 mc ms 18 [vR 30, vR 100, vR 156, vI (i + 6)] [] K2 V2 Q) : Ev γ M_L_law 60 (4 + mc) (108 + ms) 1147 [vR 30, vR 100, vR 156, vI i] [] K V Q := by
  obtain ⟨D, E, im, er, h⟩ := h
  have hL := h.1.1.L
  obtain ⟨hk30, hv30⟩ := h.s30
  obtain ⟨x, dc, dm, Q1, d1, d2, hC, hR⟩ := st_image (γ := γ) h 
  clear h
  refine ev_aload_n (X := M_L_law) (pc := 1147) dL_law_1147 rfl ?_
  refine ev_virtG (X := M_L_law) (Y := M_X11_image) (pc := 1148) (ci := 11) dL_law_1148 mk_X11_image rfl kw_949 kw_950 kw_951 (lO_100 hL) hC rfl (Nat.lt_of_le_of_lt d1 (by decide)) rfl (Nat.le_of_ble_eq_true rfl) (Nat.zero_add _) (Nat.zero_add _) (fun K1 V1 hq1 => ?_)
  obtain ⟨⟨hL, hk30, hv30⟩, Q2, hM, hI⟩ := hR K1 V1 hq1
  refine ev_aload_n (X := M_L_law) (pc := 1151) dL_law_1151 rfl ?_
  refine ev_virtG (X := M_L_law) (Y := M_X12_image) (pc := 1152) (ci := 12) dL_law_1152 mk_X12_image rfl kw_1415 kw_1416 kw_1417 (lO_156 hL) hM rfl (Nat.lt_of_le_of_lt d2 (by decide)) rfl (Nat.le_of_ble_eq_true rfl) (Nat.zero_add _) (Nat.zero_add _) (fun K2 V2 hq2 => ?_)
  have hI := hI K2 V2 hq2
  refine ev_icmp_eqS (X := M_L_law) (pc := 1155) (tgt := 1255) dL_law_1155 (by decide) ?_
  refine ev_iincL (X := M_L_law) (pc := 1255) (ls' := [_, _, _, _]) dL_law_1255 rfl (by decide) rfl ?_
  refine ev_goto (X := M_L_law) (pc := 1258) (tgt := 18) dL_law_1258 (by decide) ?_
  exact ev_less (ih _ _ hI) (by omega) (by omega)
theorem lc_restore {γ : Gh} {n : Int} {L : Nat} {g : Int → Int} {K : Sk} {V : Mm} {mc ms : Nat} {i : Int} {Q : Option PV → Sk → Mm → Prop} (h : Inv n L g K V) (hg : ∀ j, R32 (g j)) (hi : 0 ≤ i ∧ i + 6 ≤ L) (hn : n < 1000) (ih : ∀ K2 V2, Inv (n + 1) L g K2 V2 → Ev γ M_L_law 60 mc ms 18 [vR 30, vR 100, vR 156, vI (i + 6)] [] K2 V2 Q) : Ev γ M_L_law 60 (4 + mc) (108 + ms) 1160 [vR 30, vR 100, vR 156, vI i] [] K V Q := by
  obtain ⟨D, E, im, er, h⟩ := h
  have hL := h.1.1.L
  obtain ⟨hk30, hv30⟩ := h.s30
  obtain ⟨x, dc, dm, Q1, d1, d2, hC, hR⟩ := st_restore (γ := γ) h hn
  clear h
  refine ev_aload_n (X := M_L_law) (pc := 1160) dL_law_1160 rfl ?_
  refine ev_virtG (X := M_L_law) (Y := M_X11_restore) (pc := 1161) (ci := 11) dL_law_1161 mk_X11_restore rfl kw_962 kw_963 kw_964 (lO_100 hL) hC rfl (Nat.lt_of_le_of_lt d1 (by decide)) rfl (Nat.le_of_ble_eq_true rfl) (Nat.zero_add _) (Nat.zero_add _) (fun K1 V1 hq1 => ?_)
  obtain ⟨⟨hL, hk30, hv30⟩, Q2, hM, hI⟩ := hR K1 V1 hq1
  refine ev_aload_n (X := M_L_law) (pc := 1164) dL_law_1164 rfl ?_
  refine ev_virtG (X := M_L_law) (Y := M_X12_restore) (pc := 1165) (ci := 12) dL_law_1165 mk_X12_restore rfl kw_1422 kw_1423 kw_1424 (lO_156 hL) hM rfl (Nat.lt_of_le_of_lt d2 (by decide)) rfl (Nat.le_of_ble_eq_true rfl) (Nat.zero_add _) (Nat.zero_add _) (fun K2 V2 hq2 => ?_)
  have hI := hI K2 V2 hq2
  refine ev_icmp_eqS (X := M_L_law) (pc := 1168) (tgt := 1255) dL_law_1168 (by decide) ?_
  refine ev_iincL (X := M_L_law) (pc := 1255) (ls' := [_, _, _, _]) dL_law_1255 rfl (by decide) rfl ?_
  refine ev_goto (X := M_L_law) (pc := 1258) (tgt := 18) dL_law_1258 (by decide) ?_
  exact ev_less (ih _ _ hI) (by omega) (by omega)
theorem lc_tell {γ : Gh} {n : Int} {L : Nat} {g : Int → Int} {K : Sk} {V : Mm} {mc ms : Nat} {i : Int} {Q : Option PV → Sk → Mm → Prop} (h : Inv n L g K V) (hg : ∀ j, R32 (g j)) (hi : 0 ≤ i ∧ i + 6 ≤ L) (hn : n < 1000) (ih : ∀ K2 V2, Inv (n + 1) L g K2 V2 → Ev γ M_L_law 60 mc ms 18 [vR 30, vR 100, vR 156, vI (i + 6)] [] K2 V2 Q) : Ev γ M_L_law 60 (4 + mc) (108 + ms) 1173 [vR 30, vR 100, vR 156, vI i] [] K V Q := by
  obtain ⟨D, E, im, er, h⟩ := h
  have hL := h.1.1.L
  obtain ⟨hk30, hv30⟩ := h.s30
  obtain ⟨x, dc, dm, Q1, d1, d2, hC, hR⟩ := st_tell (γ := γ) h (hg (i + 1))
  clear h
  refine ev_aload_n (X := M_L_law) (pc := 1173) dL_law_1173 rfl ?_
  refine ev_aload_n (X := M_L_law) (pc := 1174) dL_law_1174 rfl ?_
  refine ev_iload_n (X := M_L_law) (pc := 1175) dL_law_1175 rfl ?_
  refine ev_iconst (X := M_L_law) (pc := 1176) dL_law_1176 ?_
  refine ev_iadd (X := M_L_law) (pc := 1177) dL_law_1177 ?_
  refine ev_ialoadE (X := M_L_law) (pc := 1178) dL_law_1178 hk30 (by omega) (congrFun hv30 _) ?_
  refine ev_virtG (X := M_L_law) (Y := M_X11_tell) (pc := 1179) (ci := 11) dL_law_1179 mk_X11_tell rfl kw_966 kw_967 kw_968 (lO_100 hL) hC rfl (Nat.lt_of_le_of_lt d1 (by decide)) rfl (Nat.le_of_ble_eq_true rfl) (Nat.zero_add _) (Nat.zero_add _) (fun K1 V1 hq1 => ?_)
  obtain ⟨⟨hL, hk30, hv30⟩, Q2, hM, hI⟩ := hR K1 V1 hq1
  refine ev_aload_n (X := M_L_law) (pc := 1182) dL_law_1182 rfl ?_
  refine ev_aload_n (X := M_L_law) (pc := 1183) dL_law_1183 rfl ?_
  refine ev_iload_n (X := M_L_law) (pc := 1184) dL_law_1184 rfl ?_
  refine ev_iconst (X := M_L_law) (pc := 1185) dL_law_1185 ?_
  refine ev_iadd (X := M_L_law) (pc := 1186) dL_law_1186 ?_
  refine ev_ialoadE (X := M_L_law) (pc := 1187) dL_law_1187 hk30 (by omega) (congrFun hv30 _) ?_
  refine ev_virtG (X := M_L_law) (Y := M_X12_tell) (pc := 1188) (ci := 12) dL_law_1188 mk_X12_tell rfl kw_1426 kw_1427 kw_1428 (lO_156 hL) hM rfl (Nat.lt_of_le_of_lt d2 (by decide)) rfl (Nat.le_of_ble_eq_true rfl) (Nat.zero_add _) (Nat.zero_add _) (fun K2 V2 hq2 => ?_)
  have hI := hI K2 V2 hq2
  refine ev_icmp_eqS (X := M_L_law) (pc := 1191) (tgt := 1255) dL_law_1191 (by decide) ?_
  refine ev_iincL (X := M_L_law) (pc := 1255) (ls' := [_, _, _, _]) dL_law_1255 rfl (by decide) rfl ?_
  refine ev_goto (X := M_L_law) (pc := 1258) (tgt := 18) dL_law_1258 (by decide) ?_
  exact ev_less (ih _ _ hI) (by omega) (by omega)
theorem lc_check {γ : Gh} {n : Int} {L : Nat} {g : Int → Int} {K : Sk} {V : Mm} {mc ms : Nat} {i : Int} {Q : Option PV → Sk → Mm → Prop} (h : Inv n L g K V) (hg : ∀ j, R32 (g j)) (hi : 0 ≤ i ∧ i + 6 ≤ L) (hn : n < 1000) (ih : ∀ K2 V2, Inv (n + 1) L g K2 V2 → Ev γ M_L_law 60 mc ms 18 [vR 30, vR 100, vR 156, vI (i + 6)] [] K2 V2 Q) : Ev γ M_L_law 60 (4 + mc) (108 + ms) 1196 [vR 30, vR 100, vR 156, vI i] [] K V Q := by
  obtain ⟨D, E, im, er, h⟩ := h
  have hL := h.1.1.L
  obtain ⟨hk30, hv30⟩ := h.s30
  obtain ⟨x, dc, dm, Q1, d1, d2, hC, hR⟩ := st_check (γ := γ) h 
  clear h
  refine ev_aload_n (X := M_L_law) (pc := 1196) dL_law_1196 rfl ?_
  refine ev_virtG (X := M_L_law) (Y := M_X11_check) (pc := 1197) (ci := 11) dL_law_1197 mk_X11_check rfl kw_970 kw_971 kw_972 (lO_100 hL) hC rfl (Nat.lt_of_le_of_lt d1 (by decide)) rfl (Nat.le_of_ble_eq_true rfl) (Nat.zero_add _) (Nat.zero_add _) (fun K1 V1 hq1 => ?_)
  obtain ⟨⟨hL, hk30, hv30⟩, Q2, hM, hI⟩ := hR K1 V1 hq1
  refine ev_aload_n (X := M_L_law) (pc := 1200) dL_law_1200 rfl ?_
  refine ev_virtG (X := M_L_law) (Y := M_X12_check) (pc := 1201) (ci := 12) dL_law_1201 mk_X12_check rfl kw_1430 kw_1431 kw_1432 (lO_156 hL) hM rfl (Nat.lt_of_le_of_lt d2 (by decide)) rfl (Nat.le_of_ble_eq_true rfl) (Nat.zero_add _) (Nat.zero_add _) (fun K2 V2 hq2 => ?_)
  have hI := hI K2 V2 hq2
  refine ev_icmp_eqS (X := M_L_law) (pc := 1204) (tgt := 1255) dL_law_1204 (by decide) ?_
  refine ev_iincL (X := M_L_law) (pc := 1255) (ls' := [_, _, _, _]) dL_law_1255 rfl (by decide) rfl ?_
  refine ev_goto (X := M_L_law) (pc := 1258) (tgt := 18) dL_law_1258 (by decide) ?_
  exact ev_less (ih _ _ hI) (by omega) (by omega)
theorem lc_count {γ : Gh} {n : Int} {L : Nat} {g : Int → Int} {K : Sk} {V : Mm} {mc ms : Nat} {i : Int} {Q : Option PV → Sk → Mm → Prop} (h : Inv n L g K V) (hg : ∀ j, R32 (g j)) (hi : 0 ≤ i ∧ i + 6 ≤ L) (hn : n < 1000) (ih : ∀ K2 V2, Inv (n + 1) L g K2 V2 → Ev γ M_L_law 60 mc ms 18 [vR 30, vR 100, vR 156, vI (i + 6)] [] K2 V2 Q) : Ev γ M_L_law 60 (4 + mc) (108 + ms) 1209 [vR 30, vR 100, vR 156, vI i] [] K V Q := by
  obtain ⟨D, E, im, er, h⟩ := h
  have hL := h.1.1.L
  obtain ⟨hk30, hv30⟩ := h.s30
  obtain ⟨x, dc, dm, Q1, d1, d2, hC, hR⟩ := st_count (γ := γ) h (hg (i + 1))
  clear h
  refine ev_aload_n (X := M_L_law) (pc := 1209) dL_law_1209 rfl ?_
  refine ev_aload_n (X := M_L_law) (pc := 1210) dL_law_1210 rfl ?_
  refine ev_iload_n (X := M_L_law) (pc := 1211) dL_law_1211 rfl ?_
  refine ev_iconst (X := M_L_law) (pc := 1212) dL_law_1212 ?_
  refine ev_iadd (X := M_L_law) (pc := 1213) dL_law_1213 ?_
  refine ev_ialoadE (X := M_L_law) (pc := 1214) dL_law_1214 hk30 (by omega) (congrFun hv30 _) ?_
  refine ev_virtG (X := M_L_law) (Y := M_X11_count) (pc := 1215) (ci := 11) dL_law_1215 mk_X11_count rfl kw_978 kw_979 kw_980 (lO_100 hL) hC rfl (Nat.lt_of_le_of_lt d1 (by decide)) rfl (Nat.le_of_ble_eq_true rfl) (Nat.zero_add _) (Nat.zero_add _) (fun K1 V1 hq1 => ?_)
  obtain ⟨⟨hL, hk30, hv30⟩, Q2, hM, hI⟩ := hR K1 V1 hq1
  refine ev_aload_n (X := M_L_law) (pc := 1218) dL_law_1218 rfl ?_
  refine ev_aload_n (X := M_L_law) (pc := 1219) dL_law_1219 rfl ?_
  refine ev_iload_n (X := M_L_law) (pc := 1220) dL_law_1220 rfl ?_
  refine ev_iconst (X := M_L_law) (pc := 1221) dL_law_1221 ?_
  refine ev_iadd (X := M_L_law) (pc := 1222) dL_law_1222 ?_
  refine ev_ialoadE (X := M_L_law) (pc := 1223) dL_law_1223 hk30 (by omega) (congrFun hv30 _) ?_
  refine ev_virtG (X := M_L_law) (Y := M_X12_count) (pc := 1224) (ci := 12) dL_law_1224 mk_X12_count rfl kw_1438 kw_1439 kw_1440 (lO_156 hL) hM rfl (Nat.lt_of_le_of_lt d2 (by decide)) rfl (Nat.le_of_ble_eq_true rfl) (Nat.zero_add _) (Nat.zero_add _) (fun K2 V2 hq2 => ?_)
  have hI := hI K2 V2 hq2
  refine ev_icmp_eqS (X := M_L_law) (pc := 1227) (tgt := 1255) dL_law_1227 (by decide) ?_
  refine ev_iincL (X := M_L_law) (pc := 1255) (ls' := [_, _, _, _]) dL_law_1255 rfl (by decide) rfl ?_
  refine ev_goto (X := M_L_law) (pc := 1258) (tgt := 18) dL_law_1258 (by decide) ?_
  exact ev_less (ih _ _ hI) (by omega) (by omega)
theorem lc_told {γ : Gh} {n : Int} {L : Nat} {g : Int → Int} {K : Sk} {V : Mm} {mc ms : Nat} {i : Int} {Q : Option PV → Sk → Mm → Prop} (h : Inv n L g K V) (hg : ∀ j, R32 (g j)) (hi : 0 ≤ i ∧ i + 6 ≤ L) (hn : n < 1000) (ih : ∀ K2 V2, Inv (n + 1) L g K2 V2 → Ev γ M_L_law 60 mc ms 18 [vR 30, vR 100, vR 156, vI (i + 6)] [] K2 V2 Q) : Ev γ M_L_law 60 (4 + mc) (108 + ms) 1232 [vR 30, vR 100, vR 156, vI i] [] K V Q := by
  obtain ⟨D, E, im, er, h⟩ := h
  have hL := h.1.1.L
  obtain ⟨hk30, hv30⟩ := h.s30
  obtain ⟨x, dc, dm, Q1, d1, d2, hC, hR⟩ := st_told (γ := γ) h (hg (i + 1))
  clear h
  refine ev_aload_n (X := M_L_law) (pc := 1232) dL_law_1232 rfl ?_
  refine ev_aload_n (X := M_L_law) (pc := 1233) dL_law_1233 rfl ?_
  refine ev_iload_n (X := M_L_law) (pc := 1234) dL_law_1234 rfl ?_
  refine ev_iconst (X := M_L_law) (pc := 1235) dL_law_1235 ?_
  refine ev_iadd (X := M_L_law) (pc := 1236) dL_law_1236 ?_
  refine ev_ialoadE (X := M_L_law) (pc := 1237) dL_law_1237 hk30 (by omega) (congrFun hv30 _) ?_
  refine ev_virtG (X := M_L_law) (Y := M_X11_told) (pc := 1238) (ci := 11) dL_law_1238 mk_X11_told rfl kw_982 kw_983 kw_984 (lO_100 hL) hC rfl (Nat.lt_of_le_of_lt d1 (by decide)) rfl (Nat.le_of_ble_eq_true rfl) (Nat.zero_add _) (Nat.zero_add _) (fun K1 V1 hq1 => ?_)
  obtain ⟨⟨hL, hk30, hv30⟩, Q2, hM, hI⟩ := hR K1 V1 hq1
  refine ev_aload_n (X := M_L_law) (pc := 1241) dL_law_1241 rfl ?_
  refine ev_aload_n (X := M_L_law) (pc := 1242) dL_law_1242 rfl ?_
  refine ev_iload_n (X := M_L_law) (pc := 1243) dL_law_1243 rfl ?_
  refine ev_iconst (X := M_L_law) (pc := 1244) dL_law_1244 ?_
  refine ev_iadd (X := M_L_law) (pc := 1245) dL_law_1245 ?_
  refine ev_ialoadE (X := M_L_law) (pc := 1246) dL_law_1246 hk30 (by omega) (congrFun hv30 _) ?_
  refine ev_virtG (X := M_L_law) (Y := M_X12_told) (pc := 1247) (ci := 12) dL_law_1247 mk_X12_told rfl kw_1442 kw_1443 kw_1444 (lO_156 hL) hM rfl (Nat.lt_of_le_of_lt d2 (by decide)) rfl (Nat.le_of_ble_eq_true rfl) (Nat.zero_add _) (Nat.zero_add _) (fun K2 V2 hq2 => ?_)
  have hI := hI K2 V2 hq2
  refine ev_icmp_eqS (X := M_L_law) (pc := 1250) (tgt := 1255) dL_law_1250 (by decide) ?_
  refine ev_iincL (X := M_L_law) (pc := 1255) (ls' := [_, _, _, _]) dL_law_1255 rfl (by decide) rfl ?_
  refine ev_goto (X := M_L_law) (pc := 1258) (tgt := 18) dL_law_1258 (by decide) ?_
  exact ev_less (ih _ _ hI) (by omega) (by omega)
