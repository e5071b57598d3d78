section LW2
variable {G : ZG} {d q : Nat} {A : ZA} {α : AH} {u : Nat × Nat} {post : Option Value → AH → Prop}
theorem la_bag (hx : lX G q) (hh : lH A u) (hr : LI A α) (h : lG G d q A u post) : Z G mL_law (d + 101) 184 [some (.ref (G.2 50)), some (.ref (G.1 + 0)), some (.ref (G.1 + 34)), some (.int (nI q))] [] α u post := by
  obtain ⟨hrm, Γ, hrc⟩ := hr
  refine Z_aload_n dL_law_184 rfl rfl ?_
  refine Z_aload_n dL_law_185 rfl rfl ?_
  refine Z_iload_n dL_law_186 rfl rfl ?_
  refine Z_iconst (v := 1) dL_law_187 (by decide) ?_
  refine Z_iadd dL_law_188 ?_
  refine Z_scr dL_law_189 hx.2.1 ?_
  refine Z_aload_n dL_law_190 rfl rfl ?_
  refine Z_iload_n dL_law_191 rfl rfl ?_
  refine Z_iconst (v := 2) dL_law_192 (by decide) ?_
  refine Z_iadd dL_law_193 ?_
  refine Z_scr dL_law_194 hx.2.2.1 ?_
  refine Z_V2z (ci := 11) dL_law_195 to_X11_bag lk_L_13 iv_X11_bag ⟨rfl, rfl⟩ (cw_i0 hrc.1) (Nat.le_of_ble_eq_true rfl) ⟨rfl, rfl⟩ hh.o ?_
  refine k_bag hrc (fun β hb hf => ?_)
  have hm := hrm.c hf
  refine Z_aload_n dL_law_198 rfl rfl ?_
  refine Z_aload_n dL_law_199 rfl rfl ?_
  refine Z_iload_n dL_law_200 rfl rfl ?_
  refine Z_iconst (v := 1) dL_law_201 (by decide) ?_
  refine Z_iadd dL_law_202 ?_
  refine Z_scr dL_law_203 hx.2.1 ?_
  refine Z_aload_n dL_law_204 rfl rfl ?_
  refine Z_iload_n dL_law_205 rfl rfl ?_
  refine Z_iconst (v := 2) dL_law_206 (by decide) ?_
  refine Z_iadd dL_law_207 ?_
  refine Z_scr dL_law_208 hx.2.2.1 ?_
  refine Z_V2z (ci := 12) dL_law_209 to_X12_bag lk_L_17 iv_X12_bag ⟨rfl, rfl⟩ (mw_i34 hm.1) (Nat.le_of_ble_eq_true rfl) ⟨rfl, rfl⟩ hh.o ?_
  refine c_mbag hm (fun γ hg hf2 => ?_)
  have hc := CRel.m hb hf2
  refine Z_icmp_eq (tgt := 1188) dL_law_212 (by decide) (fun h212 => ?_) (fun h212 => ?_)
  · skip
    exact h _ _ _ ⟨hg, Γ, hc⟩ (by rw [ls_chg]; exact Nat.le_add_right _ _) ⟨Nat.le_add_right _ _, Nat.le_add_right _ _⟩
  · skip
    exact absurd rfl h212
theorem la_feed (hx : lX G q) (hh : lH A u) (hr : LI A α) (h : lG G d q A u post) : Z G mL_law (d + 101) 217 [some (.ref (G.2 50)), some (.ref (G.1 + 0)), some (.ref (G.1 + 34)), some (.int (nI q))] [] α u post := by
  obtain ⟨hrm, Γ, hrc⟩ := hr
  refine Z_aload_n dL_law_217 rfl rfl ?_
  refine Z_aload_n dL_law_218 rfl rfl ?_
  refine Z_iload_n dL_law_219 rfl rfl ?_
  refine Z_iconst (v := 1) dL_law_220 (by decide) ?_
  refine Z_iadd dL_law_221 ?_
  refine Z_scr dL_law_222 hx.2.1 ?_
  refine Z_V1z (ci := 11) dL_law_223 to_X11_feed lk_L_18 iv_X11_feed ⟨rfl, rfl⟩ (cw_i0 hrc.1) (Nat.le_of_ble_eq_true rfl) ⟨rfl, rfl⟩ hh.o ?_
  refine k_feed hrc (fun β hb hf => ?_)
  have hm := hrm.c hf
  refine Z_aload_n dL_law_226 rfl rfl ?_
  refine Z_aload_n dL_law_227 rfl rfl ?_
  refine Z_iload_n dL_law_228 rfl rfl ?_
  refine Z_iconst (v := 1) dL_law_229 (by decide) ?_
  refine Z_iadd dL_law_230 ?_
  refine Z_scr dL_law_231 hx.2.1 ?_
  refine Z_V1z (ci := 12) dL_law_232 to_X12_feed lk_L_22 iv_X12_feed ⟨rfl, rfl⟩ (mw_i34 hm.1) (Nat.le_of_ble_eq_true rfl) ⟨rfl, rfl⟩ hh.o ?_
  refine c_mfeed hm (fun γ hg hf2 => ?_)
  have hc := CRel.m hb hf2
  refine Z_icmp_eq (tgt := 1188) dL_law_235 (by decide) (fun h235 => ?_) (fun h235 => ?_)
  · skip
    exact h _ _ _ ⟨hg, Γ, hc⟩ (by rw [ls_feed]; exact Nat.le_add_right _ _) ⟨Nat.le_add_right _ _, Nat.le_add_right _ _⟩
  · skip
    exact absurd rfl h235
theorem la_valley (hx : lX G q) (hh : lH A u) (hr : LI A α) (h : lG G d q A u post) : Z G mL_law (d + 101) 240 [some (.ref (G.2 50)), some (.ref (G.1 + 0)), some (.ref (G.1 + 34)), some (.int (nI q))] [] α u post := by
  obtain ⟨hrm, Γ, hrc⟩ := hr
  refine Z_aload_n dL_law_240 rfl rfl ?_
  refine Z_V0 (ci := 11) dL_law_241 to_X11_valley lk_L_23 iv_X11_valley ⟨rfl, rfl⟩ (cw_i0 hrc.1) (Nat.le_of_ble_eq_true rfl) (hh.z (K := 5) (S := 320) (by decide)) ?_
  refine k_valley hrc (fun h5 => ?_) (fun β h5 hn hf hS => ?_) (fun Γ1 β h5 h1 h2 hf hS => ?_)
  · skip
    have hm := hrm
    refine Z_aload_n dL_law_244 rfl rfl ?_
    refine Z_V0z (ci := 12) dL_law_245 to_X12_valley lk_L_27 iv_X12_valley ⟨rfl, rfl⟩ (mw_i34 hm.1) (Nat.le_of_ble_eq_true rfl) ⟨rfl, rfl⟩ (hh.z (K := 5) (S := 320) (by decide)) ?_
    refine c_mvalley hm (fun g5 => ?_) (fun g γ g5 gn hγ hg => ?_) (fun γ g5 g1 g2 hγ hg => ?_)
    · skip
      have hγ := hm
      have hc := hrc
      refine Z_icmp_eq (tgt := 1188) dL_law_248 (by decide) (fun h248 => ?_) (fun h248 => ?_)
      · skip
        exact h _ _ _ ⟨hγ, Γ, hc⟩ (by show A.2.2.2 ≤ A.2.2.2 + 2; omega) ⟨Nat.add_le_add_left (by decide : 5 ≤ 5) _, Nat.add_le_add_left (by decide : 320 ≤ 320) _⟩
      · skip
        exact absurd rfl h248
    · skip
      exact absurd g5 (by omega)
    · skip
      exact absurd g5 (by omega)
  · skip
    have hm := hrm.c hf
    refine Z_aload_n dL_law_244 rfl rfl ?_
    refine Z_V0z (ci := 12) dL_law_245 to_X12_valley lk_L_27 iv_X12_valley ⟨rfl, rfl⟩ (mw_i34 hm.1) (Nat.le_of_ble_eq_true rfl) ⟨rfl, rfl⟩ (hh.z (K := 5) (S := 320) (by decide)) ?_
    refine c_mvalley hm (fun g5 => ?_) (fun g γ g5 gn hγ hg => ?_) (fun γ g5 g1 g2 hγ hg => ?_)
    · skip
      exact absurd g5 (by omega)
    · skip
      have hc := (hS g hγ.2.1).m hg
      refine Z_icmp_eq (tgt := 1188) dL_law_248 (by decide) (fun h248 => ?_) (fun h248 => ?_)
      · skip
        exact h _ _ _ ⟨hγ, Γ, hc⟩ (by show A.2.2.2 ≤ A.2.2.2 + 2; omega) ⟨Nat.add_le_add_left (by decide : 5 ≤ 5) _, Nat.add_le_add_left (by decide : 320 ≤ 320) _⟩
      · skip
        exact absurd rfl h248
    · skip
      exact absurd (And.intro g1 g2) hn
  · skip
    have hm := hrm.c hf
    refine Z_aload_n dL_law_244 rfl rfl ?_
    refine Z_V0z (ci := 12) dL_law_245 to_X12_valley lk_L_27 iv_X12_valley ⟨rfl, rfl⟩ (mw_i34 hm.1) (Nat.le_of_ble_eq_true rfl) ⟨rfl, rfl⟩ (hh.z (K := 5) (S := 320) (by decide)) ?_
    refine c_mvalley hm (fun g5 => ?_) (fun g γ g5 gn hγ hg => ?_) (fun γ g5 g1 g2 hγ hg => ?_)
    · skip
      exact absurd g5 (by omega)
    · skip
      exact absurd (And.intro h1 h2) gn
    · skip
      have hc := (hS hγ.2.1).m hg
      refine Z_icmp_eq (tgt := 1188) dL_law_248 (by decide) (fun h248 => ?_) (fun h248 => ?_)
      · skip
        exact h _ _ _ ⟨hγ, Γ1, hc⟩ (by show A.2.2.2 ≤ A.2.2.2 + 2; omega) ⟨Nat.add_le_add_left (by decide : 5 ≤ 5) _, Nat.add_le_add_left (by decide : 320 ≤ 320) _⟩
      · skip
        exact absurd rfl h248
theorem la_told (hx : lX G q) (hh : lH A u) (hr : LI A α) (h : lG G d q A u post) : Z G mL_law (d + 101) 253 [some (.ref (G.2 50)), some (.ref (G.1 + 0)), some (.ref (G.1 + 34)), some (.int (nI q))] [] α u post := by
  obtain ⟨hrm, Γ, hrc⟩ := hr
  refine Z_aload_n dL_law_253 rfl rfl ?_
  refine Z_aload_n dL_law_254 rfl rfl ?_
  refine Z_iload_n dL_law_255 rfl rfl ?_
  refine Z_iconst (v := 1) dL_law_256 (by decide) ?_
  refine Z_iadd dL_law_257 ?_
  refine Z_scr dL_law_258 hx.2.1 ?_
  refine Z_V1z (ci := 11) dL_law_259 to_X11_told lk_L_28 iv_X11_told ⟨rfl, rfl⟩ (cw_i0 hrc.1) (Nat.le_of_ble_eq_true rfl) ⟨rfl, rfl⟩ hh.o ?_
  refine k_told hrc ?_
  have hm := hrm
  have hb := hrc
  refine Z_aload_n dL_law_262 rfl rfl ?_
  refine Z_aload_n dL_law_263 rfl rfl ?_
  refine Z_iload_n dL_law_264 rfl rfl ?_
  refine Z_iconst (v := 1) dL_law_265 (by decide) ?_
  refine Z_iadd dL_law_266 ?_
  refine Z_scr dL_law_267 hx.2.1 ?_
  refine Z_V1z (ci := 12) dL_law_268 to_X12_told lk_L_31 iv_X12_told ⟨rfl, rfl⟩ (mw_i34 hm.1) (Nat.le_of_ble_eq_true rfl) ⟨rfl, rfl⟩ hh.o ?_
  refine c_mtold hm ?_
  have hc := hb
  have hg := hm
  refine Z_icmp_eq (tgt := 1188) dL_law_271 (by decide) (fun h271 => ?_) (fun h271 => ?_)
  · skip
    exact h _ _ _ ⟨hg, Γ, hc⟩ (Nat.le_add_right _ _) ⟨Nat.le_add_right _ _, Nat.le_add_right _ _⟩
  · skip
    exact absurd rfl h271
theorem la_stage (hx : lX G q) (hh : lH A u) (hr : LI A α) (h : lG G d q A u post) : Z G mL_law (d + 101) 276 [some (.ref (G.2 50)), some (.ref (G.1 + 0)), some (.ref (G.1 + 34)), some (.int (nI q))] [] α u post := by
  obtain ⟨hrm, Γ, hrc⟩ := hr
  refine Z_aload_n dL_law_276 rfl rfl ?_
  refine Z_aload_n dL_law_277 rfl rfl ?_
  refine Z_iload_n dL_law_278 rfl rfl ?_
  refine Z_iconst (v := 1) dL_law_279 (by decide) ?_
  refine Z_iadd dL_law_280 ?_
  refine Z_scr dL_law_281 hx.2.1 ?_
  refine Z_aload_n dL_law_282 rfl rfl ?_
  refine Z_iload_n dL_law_283 rfl rfl ?_
  refine Z_iconst (v := 2) dL_law_284 (by decide) ?_
  refine Z_iadd dL_law_285 ?_
  refine Z_scr dL_law_286 hx.2.2.1 ?_
  refine Z_V2z (ci := 11) dL_law_287 to_X11_stage lk_L_32 iv_X11_stage ⟨rfl, rfl⟩ (cw_i0 hrc.1) (Nat.le_of_ble_eq_true rfl) ⟨rfl, rfl⟩ hh.o ?_
  refine k_stage hrc (fun β hb hf => ?_)
  have hm := hrm.c hf
  refine Z_aload_n dL_law_290 rfl rfl ?_
  refine Z_aload_n dL_law_291 rfl rfl ?_
  refine Z_iload_n dL_law_292 rfl rfl ?_
  refine Z_iconst (v := 1) dL_law_293 (by decide) ?_
  refine Z_iadd dL_law_294 ?_
  refine Z_scr dL_law_295 hx.2.1 ?_
  refine Z_aload_n dL_law_296 rfl rfl ?_
  refine Z_iload_n dL_law_297 rfl rfl ?_
  refine Z_iconst (v := 2) dL_law_298 (by decide) ?_
  refine Z_iadd dL_law_299 ?_
  refine Z_scr dL_law_300 hx.2.2.1 ?_
  refine Z_V2z (ci := 12) dL_law_301 to_X12_stage lk_L_35 iv_X12_stage ⟨rfl, rfl⟩ (mw_i34 hm.1) (Nat.le_of_ble_eq_true rfl) ⟨rfl, rfl⟩ hh.o ?_
  refine c_mstage hm (fun γ hg hf2 => ?_)
  have hc := CRel.m hb hf2
  refine Z_icmp_eq (tgt := 1188) dL_law_304 (by decide) (fun h304 => ?_) (fun h304 => ?_)
  · skip
    exact h _ _ _ ⟨hg, Γ, hc⟩ (by rw [ls_chg]; exact Nat.le_add_right _ _) ⟨Nat.le_add_right _ _, Nat.le_add_right _ _⟩
  · skip
    exact absurd rfl h304
theorem la_worker (hx : lX G q) (hh : lH A u) (hr : LI A α) (h : lG G d q A u post) : Z G mL_law (d + 101) 309 [some (.ref (G.2 50)), some (.ref (G.1 + 0)), some (.ref (G.1 + 34)), some (.int (nI q))] [] α u post := by
  obtain ⟨hrm, Γ, hrc⟩ := hr
  refine Z_aload_n dL_law_309 rfl rfl ?_
  refine Z_aload_n dL_law_310 rfl rfl ?_
  refine Z_iload_n dL_law_311 rfl rfl ?_
  refine Z_iconst (v := 1) dL_law_312 (by decide) ?_
  refine Z_iadd dL_law_313 ?_
  refine Z_scr dL_law_314 hx.2.1 ?_
  refine Z_aload_n dL_law_315 rfl rfl ?_
  refine Z_iload_n dL_law_316 rfl rfl ?_
  refine Z_iconst (v := 2) dL_law_317 (by decide) ?_
  refine Z_iadd dL_law_318 ?_
  refine Z_scr dL_law_319 hx.2.2.1 ?_
  refine Z_V2 (ci := 11) dL_law_320 to_X11_worker lk_L_36 iv_X11_worker ⟨rfl, rfl⟩ (cw_i0 hrc.1) (Nat.le_of_ble_eq_true rfl) (hh.z (K := 1) (S := 4) (by decide)) ?_
  refine k_worker hrc (fun β hb hf => ?_)
  have hm := hrm.c hf
  refine Z_aload_n dL_law_323 rfl rfl ?_
  refine Z_aload_n dL_law_324 rfl rfl ?_
  refine Z_iload_n dL_law_325 rfl rfl ?_
  refine Z_iconst (v := 1) dL_law_326 (by decide) ?_
  refine Z_iadd dL_law_327 ?_
  refine Z_scr dL_law_328 hx.2.1 ?_
  refine Z_aload_n dL_law_329 rfl rfl ?_
  refine Z_iload_n dL_law_330 rfl rfl ?_
  refine Z_iconst (v := 2) dL_law_331 (by decide) ?_
  refine Z_iadd dL_law_332 ?_
  refine Z_scr dL_law_333 hx.2.2.1 ?_
  refine Z_V2z (ci := 12) dL_law_334 to_X12_worker lk_L_39 iv_X12_worker ⟨rfl, rfl⟩ (mw_i34 hm.1) (Nat.le_of_ble_eq_true rfl) ⟨rfl, rfl⟩ (hh.z (K := 1) (S := 4) (by decide)) ?_
  refine c_mworker hm (fun γ hg hf2 => ?_)
  have hc := CRel.m hb hf2
  refine Z_icmp_eq (tgt := 1188) dL_law_337 (by decide) (fun h337 => ?_) (fun h337 => ?_)
  · skip
    exact h _ _ _ ⟨hg, Γ, hc⟩ (by rw [ls_worker]; exact Nat.le_add_right _ _) ⟨Nat.add_le_add_left (by decide : 1 ≤ 5) _, Nat.add_le_add_left (by decide : 4 ≤ 320) _⟩
  · skip
    exact absurd rfl h337
theorem la_row (hx : lX G q) (hh : lH A u) (hr : LI A α) (h : lG G d q A u post) : Z G mL_law (d + 101) 342 [some (.ref (G.2 50)), some (.ref (G.1 + 0)), some (.ref (G.1 + 34)), some (.int (nI q))] [] α u post := by
  obtain ⟨hrm, Γ, hrc⟩ := hr
  refine Z_aload_n dL_law_342 rfl rfl ?_
  refine Z_aload_n dL_law_343 rfl rfl ?_
  refine Z_iload_n dL_law_344 rfl rfl ?_
  refine Z_iconst (v := 1) dL_law_345 (by decide) ?_
  refine Z_iadd dL_law_346 ?_
  refine Z_scr dL_law_347 hx.2.1 ?_
  refine Z_aload_n dL_law_348 rfl rfl ?_
  refine Z_iload_n dL_law_349 rfl rfl ?_
  refine Z_iconst (v := 2) dL_law_350 (by decide) ?_
  refine Z_iadd dL_law_351 ?_
  refine Z_scr dL_law_352 hx.2.2.1 ?_
  refine Z_aload_n dL_law_353 rfl rfl ?_
  refine Z_iload_n dL_law_354 rfl rfl ?_
  refine Z_iconst (v := 3) dL_law_355 (by decide) ?_
  refine Z_iadd dL_law_356 ?_
  refine Z_scr dL_law_357 hx.2.2.2.1 ?_
  refine Z_V3 (ci := 11) dL_law_358 to_X11_row lk_L_40 iv_X11_row ⟨rfl, rfl⟩ (cw_i0 hrc.1) (Nat.le_of_ble_eq_true rfl) (hh.z (K := 1) (S := 4) (by decide)) ?_
  refine k_row hrc (fun β hb hf => ?_)
  have hm := hrm.c hf
  refine Z_aload_n dL_law_361 rfl rfl ?_
  refine Z_aload_n dL_law_362 rfl rfl ?_
  refine Z_iload_n dL_law_363 rfl rfl ?_
  refine Z_iconst (v := 1) dL_law_364 (by decide) ?_
  refine Z_iadd dL_law_365 ?_
  refine Z_scr dL_law_366 hx.2.1 ?_
  refine Z_aload_n dL_law_367 rfl rfl ?_
  refine Z_iload_n dL_law_368 rfl rfl ?_
  refine Z_iconst (v := 2) dL_law_369 (by decide) ?_
  refine Z_iadd dL_law_370 ?_
  refine Z_scr dL_law_371 hx.2.2.1 ?_
  refine Z_aload_n dL_law_372 rfl rfl ?_
  refine Z_iload_n dL_law_373 rfl rfl ?_
  refine Z_iconst (v := 3) dL_law_374 (by decide) ?_
  refine Z_iadd dL_law_375 ?_
  refine Z_scr dL_law_376 hx.2.2.2.1 ?_
  refine Z_V3z (ci := 12) dL_law_377 to_X12_row lk_L_44 iv_X12_row ⟨rfl, rfl⟩ (mw_i34 hm.1) (Nat.le_of_ble_eq_true rfl) ⟨rfl, rfl⟩ (hh.z (K := 1) (S := 4) (by decide)) ?_
  refine c_mrow hm (fun γ hg hf2 => ?_)
  have hc := CRel.m hb hf2
  refine Z_icmp_eq (tgt := 1188) dL_law_380 (by decide) (fun h380 => ?_) (fun h380 => ?_)
  · skip
    exact h _ _ _ ⟨hg, Γ, hc⟩ (by rw [ls_row]; exact Nat.le_add_right _ _) ⟨Nat.add_le_add_left (by decide : 1 ≤ 5) _, Nat.add_le_add_left (by decide : 4 ≤ 320) _⟩
  · skip
    exact absurd rfl h380
theorem la_of (hx : lX G q) (hh : lH A u) (hr : LI A α) (h : lG G d q A u post) : Z G mL_law (d + 101) 385 [some (.ref (G.2 50)), some (.ref (G.1 + 0)), some (.ref (G.1 + 34)), some (.int (nI q))] [] α u post := by
  obtain ⟨hrm, Γ, hrc⟩ := hr
  refine Z_aload_n dL_law_385 rfl rfl ?_
  refine Z_aload_n dL_law_386 rfl rfl ?_
  refine Z_iload_n dL_law_387 rfl rfl ?_
  refine Z_iconst (v := 1) dL_law_388 (by decide) ?_
  refine Z_iadd dL_law_389 ?_
  refine Z_scr dL_law_390 hx.2.1 ?_
  refine Z_aload_n dL_law_391 rfl rfl ?_
  refine Z_iload_n dL_law_392 rfl rfl ?_
  refine Z_iconst (v := 2) dL_law_393 (by decide) ?_
  refine Z_iadd dL_law_394 ?_
  refine Z_scr dL_law_395 hx.2.2.1 ?_
  refine Z_V2z (ci := 11) dL_law_396 to_X11_of lk_L_45 iv_X11_of ⟨rfl, rfl⟩ (cw_i0 hrc.1) (Nat.le_of_ble_eq_true rfl) ⟨rfl, rfl⟩ hh.o ?_
  refine k_of hrc (fun β hb hf => ?_)
  have hm := hrm.c hf
  refine Z_aload_n dL_law_399 rfl rfl ?_
  refine Z_aload_n dL_law_400 rfl rfl ?_
  refine Z_iload_n dL_law_401 rfl rfl ?_
  refine Z_iconst (v := 1) dL_law_402 (by decide) ?_
  refine Z_iadd dL_law_403 ?_
  refine Z_scr dL_law_404 hx.2.1 ?_
  refine Z_aload_n dL_law_405 rfl rfl ?_
  refine Z_iload_n dL_law_406 rfl rfl ?_
  refine Z_iconst (v := 2) dL_law_407 (by decide) ?_
  refine Z_iadd dL_law_408 ?_
  refine Z_scr dL_law_409 hx.2.2.1 ?_
  refine Z_V2z (ci := 12) dL_law_410 to_X12_of lk_L_48 iv_X12_of ⟨rfl, rfl⟩ (mw_i34 hm.1) (Nat.le_of_ble_eq_true rfl) ⟨rfl, rfl⟩ hh.o ?_
  refine c_mof hm (by have := hh.2; omega) (fun γ hg hf2 => ?_)
  have hc := CRel.up (n := 2) (CRel.m hb hf2)
  refine Z_icmp_eq (tgt := 1188) dL_law_413 (by decide) (fun h413 => ?_) (fun h413 => ?_)
  · skip
    exact h _ _ _ ⟨hg, Γ, hc⟩ (Nat.le_refl _) ⟨Nat.le_add_right _ _, Nat.le_add_right _ _⟩
  · skip
    exact absurd rfl h413
theorem la_draw (hx : lX G q) (hh : lH A u) (hr : LI A α) (h : lG G d q A u post) : Z G mL_law (d + 101) 418 [some (.ref (G.2 50)), some (.ref (G.1 + 0)), some (.ref (G.1 + 34)), some (.int (nI q))] [] α u post := by
  obtain ⟨hrm, Γ, hrc⟩ := hr
  refine Z_aload_n dL_law_418 rfl rfl ?_
  refine Z_aload_n dL_law_419 rfl rfl ?_
  refine Z_iload_n dL_law_420 rfl rfl ?_
  refine Z_iconst (v := 1) dL_law_421 (by decide) ?_
  refine Z_iadd dL_law_422 ?_
  refine Z_scr dL_law_423 hx.2.1 ?_
  refine Z_aload_n dL_law_424 rfl rfl ?_
  refine Z_iload_n dL_law_425 rfl rfl ?_
  refine Z_iconst (v := 2) dL_law_426 (by decide) ?_
  refine Z_iadd dL_law_427 ?_
  refine Z_scr dL_law_428 hx.2.2.1 ?_
  refine Z_V2z (ci := 11) dL_law_429 to_X11_draw lk_L_49 iv_X11_draw ⟨rfl, rfl⟩ (cw_i0 hrc.1) (Nat.le_of_ble_eq_true rfl) ⟨rfl, rfl⟩ hh.o ?_
  refine k_draw hrc (fun β hb hf => ?_)
  have hm := hrm.c hf
  refine Z_aload_n dL_law_432 rfl rfl ?_
  refine Z_aload_n dL_law_433 rfl rfl ?_
  refine Z_iload_n dL_law_434 rfl rfl ?_
  refine Z_iconst (v := 1) dL_law_435 (by decide) ?_
  refine Z_iadd dL_law_436 ?_
  refine Z_scr dL_law_437 hx.2.1 ?_
  refine Z_aload_n dL_law_438 rfl rfl ?_
  refine Z_iload_n dL_law_439 rfl rfl ?_
  refine Z_iconst (v := 2) dL_law_440 (by decide) ?_
  refine Z_iadd dL_law_441 ?_
  refine Z_scr dL_law_442 hx.2.2.1 ?_
  refine Z_V2z (ci := 12) dL_law_443 to_X12_draw lk_L_52 iv_X12_draw ⟨rfl, rfl⟩ (mw_i34 hm.1) (Nat.le_of_ble_eq_true rfl) ⟨rfl, rfl⟩ hh.o ?_
  refine c_mdraw hm (by have := hh.2; omega) (fun γ hg hf2 => ?_)
  have hc := CRel.up (n := 2) (CRel.m hb hf2)
  refine Z_icmp_eq (tgt := 1188) dL_law_446 (by decide) (fun h446 => ?_) (fun h446 => ?_)
  · skip
    exact h _ _ _ ⟨hg, Γ, hc⟩ (by show (sp_draw A _ _).2.2.2.2 + 2 ≤ _; rw [ls_draw]; exact Nat.le_refl _) ⟨Nat.le_add_right _ _, Nat.le_add_right _ _⟩
  · skip
    exact absurd rfl h446
end LW2
