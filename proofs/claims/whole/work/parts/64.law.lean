/-! the law's cases -/
theorem sx (i k : Nat) : nI i + nI k = nI (i + k) := nI_add i k
theorem mst_cg {c c1 : zS} (h : ∀ k, 51 ≤ k → c1 k = c k) : mst c1 = mst c := by
  unfold mst
  rw [h 52 (by decide), h 53 (by decide), h 55 (by decide), h 51 (by decide), h 59 (by decide), h 60 (by decide), h 61 (by decide), h 62 (by decide)]
theorem RX_lo {c c' : zS} {σ : zT} (h : RX c σ) (e : ∀ k, k < 51 → c' k = c k) : RX c' σ := by
  obtain ⟨⟨n, t', m, a, b⟩, r2, r3, r4, r5, r6, r7⟩ := h
  refine ⟨⟨n, t', m, ST_pr a (PR_cg a.1 (fun k x y => e k (by omega))) (fun k hk => e k (by omega)) (fun _ _ => rfl) rfl, b⟩, by rw [e 0 (by decide)]; exact r2, fun w => ?_, by rw [e 17 (by decide), e 20 (by decide)]; exact r4, by rw [e 50 (by decide)]; exact r5, by rw [e 40 (by decide), e 41 (by decide)]; exact r6, SHx_cg r7 (fun k a b => e k (by omega))⟩
  obtain ⟨n, t, m, a, b⟩ := r3 w
  exact ⟨n, t, m, ST_kept a (fun k x y => e k (by omega)), b⟩
theorem law_eq {c c1 c2 : zS} {r : Int32} (X : zT → Int32 × zT) (hf1 : ∀ k, 51 ≤ k → c1 k = c k) (hX1 : RX c1 (X (mst c)).2) (hf2 : ∀ k, k < 51 → c2 k = c1 k) (he : (r, mst c2) = X (mst c1)) : (X (mst c)).1 = r ∧ RX c2 (mst c2) := by
  rw [mst_cg hf1] at he
  rw [← he]
  refine ⟨rfl, ?_⟩
  rw [← he] at hX1
  exact RX_lo hX1 hf2
/-- what the reference's calls ask -/
theorem RX_ref {c c1 : zS} (hX : RX c (mst c)) (hf : ∀ k, 51 ≤ k → c1 k = c k) : ∃ n t m : Nat, vaF (c1 52) n ∧ c1 52 3 = nI t ∧ t ≤ 60 ∧ c1 52 4 = nI m ∧ m ≤ 24 ∧ (∀ j, j < n → ∃ K : Nat, K ≤ 6 ∧ c1 52 (8 + 5 * j) = nI K) ∧ (∀ k, k < 4 → ∃ z : Nat, z ≤ 24 ∧ c1 61 k = nI z) ∧ (∃ k : Nat, k ≤ 30 ∧ c1 51 12 = nI k) := by
  obtain ⟨⟨n, t, m, a, b⟩, r2, r3, r4, r5, r6, r7⟩ := hX
  rw [hf 52 (by decide), hf 61 (by decide), hf 51 (by decide)]
  refine ⟨n, t, m, b.1, b.2.1, b.2.2.1, b.2.2.2.1, b.2.2.2.2.1, b.2.2.2.2.2.1, fun k hk => ?_, r6.2.2⟩
  obtain ⟨_, _, _, z, hz, ez, _⟩ := r7 k hk
  exact ⟨z, hz, ez⟩
section LW
variable {l : Launch} {E : zE} {ad : Nat → Nat} {c : zS} {Qf : Int32 → zS → Prop} {d i : Nat}
theorem lw_person (hX : RX c (mst c)) (hi : i + 6 ≤ E.2.2.1) (hL : E.2.2.1 ≤ 3072) (hd : 120 ≤ d) (nxt : ∀ c2, RX c2 (mst c2) → zW l E ad RL cL_law 4 3 d Qf 1343 [some (.ref (ad 72)), some (.ref (ad 0)), some (.ref (ad 51)), some (.int (nI i))] [] c2) : zW l E ad RL cL_law 4 3 d Qf 188 [some (.ref (ad 72)), some (.ref (ad 0)), some (.ref (ad 51)), some (.int (nI i))] [] c := by
  refine z_aload_n (i := 1) dL_law_188 rfl rfl ?_
  refine z_aload_n (i := 0) dL_law_189 rfl rfl ?_
  refine z_iload_n (i := 3) dL_law_190 rfl rfl ?_
  refine z_iconst (v := 1) dL_law_191 (by decide) ?_
  refine z_iadd dL_law_192 ?_
  refine z_sald (j := i + 1) dL_law_193 (by exact sx i 1) (by omega) (by first | decide | omega) ?_
  refine z_aload_n (i := 0) dL_law_194 rfl rfl ?_
  refine z_iload_n (i := 3) dL_law_195 rfl rfl ?_
  refine z_iconst (v := 2) dL_law_196 (by decide) ?_
  refine z_iadd dL_law_197 ?_
  refine z_sald (j := i + 2) dL_law_198 (by exact sx i 2) (by omega) (by first | decide | omega) ?_
  refine z_Vi (As := [_, _]) dL_law_199 (by rfl) v_X7_person l_L_13 (by first | decide | assumption | omega) rfl rfl rfl (by omega) (by decide) (Nat.le_of_ble_eq_true rfl) ?_
  refine x_person hX (by omega) ?_
  intro c1 hf1 hX1
  obtain ⟨n, t, m, hv, h3, ht, h4, hm, hkk, hz, hs⟩ := RX_ref hX hf1
  refine z_aload_n (i := 2) dL_law_202 rfl rfl ?_
  refine z_aload_n (i := 0) dL_law_203 rfl rfl ?_
  refine z_iload_n (i := 3) dL_law_204 rfl rfl ?_
  refine z_iconst (v := 1) dL_law_205 (by decide) ?_
  refine z_iadd dL_law_206 ?_
  refine z_sald (j := i + 1) dL_law_207 (by exact sx i 1) (by omega) (by first | decide | omega) ?_
  refine z_aload_n (i := 0) dL_law_208 rfl rfl ?_
  refine z_iload_n (i := 3) dL_law_209 rfl rfl ?_
  refine z_iconst (v := 2) dL_law_210 (by decide) ?_
  refine z_iadd dL_law_211 ?_
  refine z_sald (j := i + 2) dL_law_212 (by exact sx i 2) (by omega) (by first | decide | omega) ?_
  refine z_Vi (As := [_, _]) dL_law_213 (by rfl) v_X8_person l_L_17 (by first | decide | assumption | omega) rfl rfl rfl (by omega) (by decide) (Nat.le_of_ble_eq_true rfl) ?_
  refine o8_person (n := n) hv (by omega) ?_
  intro r c2 hf2 he2
  have hq := law_eq (fun σ => o_person σ _ _) hf1 hX1 hf2 he2
  refine z_icmp_eq 1343 dL_law_216 (by decide) (fun h_216 => ?_) (fun h_216 => ?_)
  rotate_left
  · exact absurd hq.1 h_216
  exact nxt c2 hq.2
theorem lw_personIs (hX : RX c (mst c)) (hi : i + 6 ≤ E.2.2.1) (hL : E.2.2.1 ≤ 3072) (hd : 120 ≤ d) (nxt : ∀ c2, RX c2 (mst c2) → zW l E ad RL cL_law 4 3 d Qf 1343 [some (.ref (ad 72)), some (.ref (ad 0)), some (.ref (ad 51)), some (.int (nI i))] [] c2) : zW l E ad RL cL_law 4 3 d Qf 221 [some (.ref (ad 72)), some (.ref (ad 0)), some (.ref (ad 51)), some (.int (nI i))] [] c := by
  refine z_aload_n (i := 1) dL_law_221 rfl rfl ?_
  refine z_aload_n (i := 0) dL_law_222 rfl rfl ?_
  refine z_iload_n (i := 3) dL_law_223 rfl rfl ?_
  refine z_iconst (v := 1) dL_law_224 (by decide) ?_
  refine z_iadd dL_law_225 ?_
  refine z_sald (j := i + 1) dL_law_226 (by exact sx i 1) (by omega) (by first | decide | omega) ?_
  refine z_aload_n (i := 0) dL_law_227 rfl rfl ?_
  refine z_iload_n (i := 3) dL_law_228 rfl rfl ?_
  refine z_iconst (v := 2) dL_law_229 (by decide) ?_
  refine z_iadd dL_law_230 ?_
  refine z_sald (j := i + 2) dL_law_231 (by exact sx i 2) (by omega) (by first | decide | omega) ?_
  refine z_Vi (As := [_, _]) dL_law_232 (by rfl) v_X7_personIs l_L_18 (by first | decide | assumption | omega) rfl rfl rfl (by omega) (by decide) (Nat.le_of_ble_eq_true rfl) ?_
  refine x_personIs hX (by omega) ?_
  intro c1 hf1 hX1
  obtain ⟨n, t, m, hv, h3, ht, h4, hm, hkk, hz, hs⟩ := RX_ref hX hf1
  refine z_aload_n (i := 2) dL_law_235 rfl rfl ?_
  refine z_aload_n (i := 0) dL_law_236 rfl rfl ?_
  refine z_iload_n (i := 3) dL_law_237 rfl rfl ?_
  refine z_iconst (v := 1) dL_law_238 (by decide) ?_
  refine z_iadd dL_law_239 ?_
  refine z_sald (j := i + 1) dL_law_240 (by exact sx i 1) (by omega) (by first | decide | omega) ?_
  refine z_aload_n (i := 0) dL_law_241 rfl rfl ?_
  refine z_iload_n (i := 3) dL_law_242 rfl rfl ?_
  refine z_iconst (v := 2) dL_law_243 (by decide) ?_
  refine z_iadd dL_law_244 ?_
  refine z_sald (j := i + 2) dL_law_245 (by exact sx i 2) (by omega) (by first | decide | omega) ?_
  refine z_Vi (As := [_, _]) dL_law_246 (by rfl) v_X8_personIs l_L_21 (by first | decide | assumption | omega) rfl rfl rfl (by omega) (by decide) (Nat.le_of_ble_eq_true rfl) ?_
  refine o8_personIs (n := n) hv (by omega) ?_
  intro r c2 hf2 he2
  have hq := law_eq (fun σ => o_personIs σ _ _) hf1 hX1 hf2 he2
  refine z_icmp_eq 1343 dL_law_249 (by decide) (fun h_249 => ?_) (fun h_249 => ?_)
  rotate_left
  · exact absurd hq.1 h_249
  exact nxt c2 hq.2
theorem lw_become (hX : RX c (mst c)) (hi : i + 6 ≤ E.2.2.1) (hL : E.2.2.1 ≤ 3072) (hd : 120 ≤ d) (nxt : ∀ c2, RX c2 (mst c2) → zW l E ad RL cL_law 4 3 d Qf 1343 [some (.ref (ad 72)), some (.ref (ad 0)), some (.ref (ad 51)), some (.int (nI i))] [] c2) : zW l E ad RL cL_law 4 3 d Qf 254 [some (.ref (ad 72)), some (.ref (ad 0)), some (.ref (ad 51)), some (.int (nI i))] [] c := by
  refine z_aload_n (i := 1) dL_law_254 rfl rfl ?_
  refine z_aload_n (i := 0) dL_law_255 rfl rfl ?_
  refine z_iload_n (i := 3) dL_law_256 rfl rfl ?_
  refine z_iconst (v := 1) dL_law_257 (by decide) ?_
  refine z_iadd dL_law_258 ?_
  refine z_sald (j := i + 1) dL_law_259 (by exact sx i 1) (by omega) (by first | decide | omega) ?_
  refine z_aload_n (i := 0) dL_law_260 rfl rfl ?_
  refine z_iload_n (i := 3) dL_law_261 rfl rfl ?_
  refine z_iconst (v := 2) dL_law_262 (by decide) ?_
  refine z_iadd dL_law_263 ?_
  refine z_sald (j := i + 2) dL_law_264 (by exact sx i 2) (by omega) (by first | decide | omega) ?_
  refine z_Vi (As := [_, _]) dL_law_265 (by rfl) v_X7_become l_L_22 (by first | decide | assumption | omega) rfl rfl rfl (by omega) (by decide) (Nat.le_of_ble_eq_true rfl) ?_
  refine x_become hX (by omega) ?_
  intro c1 hf1 hX1
  obtain ⟨n, t, m, hv, h3, ht, h4, hm, hkk, hz, hs⟩ := RX_ref hX hf1
  refine z_aload_n (i := 2) dL_law_268 rfl rfl ?_
  refine z_aload_n (i := 0) dL_law_269 rfl rfl ?_
  refine z_iload_n (i := 3) dL_law_270 rfl rfl ?_
  refine z_iconst (v := 1) dL_law_271 (by decide) ?_
  refine z_iadd dL_law_272 ?_
  refine z_sald (j := i + 1) dL_law_273 (by exact sx i 1) (by omega) (by first | decide | omega) ?_
  refine z_aload_n (i := 0) dL_law_274 rfl rfl ?_
  refine z_iload_n (i := 3) dL_law_275 rfl rfl ?_
  refine z_iconst (v := 2) dL_law_276 (by decide) ?_
  refine z_iadd dL_law_277 ?_
  refine z_sald (j := i + 2) dL_law_278 (by exact sx i 2) (by omega) (by first | decide | omega) ?_
  refine z_Vi (As := [_, _]) dL_law_279 (by rfl) v_X8_become l_L_25 (by first | decide | assumption | omega) rfl rfl rfl (by omega) (by decide) (Nat.le_of_ble_eq_true rfl) ?_
  refine o8_become (n := n) hv (by omega) ?_
  intro r c2 hf2 he2
  have hq := law_eq (fun σ => o_become σ _ _) hf1 hX1 hf2 he2
  refine z_icmp_eq 1343 dL_law_282 (by decide) (fun h_282 => ?_) (fun h_282 => ?_)
  rotate_left
  · exact absurd hq.1 h_282
  exact nxt c2 hq.2
theorem lw_as (hX : RX c (mst c)) (hi : i + 6 ≤ E.2.2.1) (hL : E.2.2.1 ≤ 3072) (hd : 120 ≤ d) (nxt : ∀ c2, RX c2 (mst c2) → zW l E ad RL cL_law 4 3 d Qf 1343 [some (.ref (ad 72)), some (.ref (ad 0)), some (.ref (ad 51)), some (.int (nI i))] [] c2) : zW l E ad RL cL_law 4 3 d Qf 287 [some (.ref (ad 72)), some (.ref (ad 0)), some (.ref (ad 51)), some (.int (nI i))] [] c := by
  refine z_aload_n (i := 1) dL_law_287 rfl rfl ?_
  refine z_aload_n (i := 0) dL_law_288 rfl rfl ?_
  refine z_iload_n (i := 3) dL_law_289 rfl rfl ?_
  refine z_iconst (v := 1) dL_law_290 (by decide) ?_
  refine z_iadd dL_law_291 ?_
  refine z_sald (j := i + 1) dL_law_292 (by exact sx i 1) (by omega) (by first | decide | omega) ?_
  refine z_aload_n (i := 0) dL_law_293 rfl rfl ?_
  refine z_iload_n (i := 3) dL_law_294 rfl rfl ?_
  refine z_iconst (v := 2) dL_law_295 (by decide) ?_
  refine z_iadd dL_law_296 ?_
  refine z_sald (j := i + 2) dL_law_297 (by exact sx i 2) (by omega) (by first | decide | omega) ?_
  refine z_Vi (As := [_, _]) dL_law_298 (by rfl) v_X7_as l_L_26 (by first | decide | assumption | omega) rfl rfl rfl (by omega) (by decide) (Nat.le_of_ble_eq_true rfl) ?_
  refine x_as hX (by omega) ?_
  intro c1 hf1 hX1
  obtain ⟨n, t, m, hv, h3, ht, h4, hm, hkk, hz, hs⟩ := RX_ref hX hf1
  refine z_aload_n (i := 2) dL_law_301 rfl rfl ?_
  refine z_aload_n (i := 0) dL_law_302 rfl rfl ?_
  refine z_iload_n (i := 3) dL_law_303 rfl rfl ?_
  refine z_iconst (v := 1) dL_law_304 (by decide) ?_
  refine z_iadd dL_law_305 ?_
  refine z_sald (j := i + 1) dL_law_306 (by exact sx i 1) (by omega) (by first | decide | omega) ?_
  refine z_aload_n (i := 0) dL_law_307 rfl rfl ?_
  refine z_iload_n (i := 3) dL_law_308 rfl rfl ?_
  refine z_iconst (v := 2) dL_law_309 (by decide) ?_
  refine z_iadd dL_law_310 ?_
  refine z_sald (j := i + 2) dL_law_311 (by exact sx i 2) (by omega) (by first | decide | omega) ?_
  refine z_Vi (As := [_, _]) dL_law_312 (by rfl) v_X8_as l_L_29 (by first | decide | assumption | omega) rfl rfl rfl (by omega) (by decide) (Nat.le_of_ble_eq_true rfl) ?_
  refine o8_as (n := n) hv (by omega) ?_
  intro r c2 hf2 he2
  have hq := law_eq (fun σ => o_as σ _ _) hf1 hX1 hf2 he2
  refine z_icmp_eq 1343 dL_law_315 (by decide) (fun h_315 => ?_) (fun h_315 => ?_)
  rotate_left
  · exact absurd hq.1 h_315
  exact nxt c2 hq.2
theorem lw_answers (hX : RX c (mst c)) (hi : i + 6 ≤ E.2.2.1) (hL : E.2.2.1 ≤ 3072) (hd : 120 ≤ d) (nxt : ∀ c2, RX c2 (mst c2) → zW l E ad RL cL_law 4 3 d Qf 1343 [some (.ref (ad 72)), some (.ref (ad 0)), some (.ref (ad 51)), some (.int (nI i))] [] c2) : zW l E ad RL cL_law 4 3 d Qf 320 [some (.ref (ad 72)), some (.ref (ad 0)), some (.ref (ad 51)), some (.int (nI i))] [] c := by
  refine z_aload_n (i := 1) dL_law_320 rfl rfl ?_
  refine z_aload_n (i := 0) dL_law_321 rfl rfl ?_
  refine z_iload_n (i := 3) dL_law_322 rfl rfl ?_
  refine z_iconst (v := 1) dL_law_323 (by decide) ?_
  refine z_iadd dL_law_324 ?_
  refine z_sald (j := i + 1) dL_law_325 (by exact sx i 1) (by omega) (by first | decide | omega) ?_
  refine z_aload_n (i := 0) dL_law_326 rfl rfl ?_
  refine z_iload_n (i := 3) dL_law_327 rfl rfl ?_
  refine z_iconst (v := 2) dL_law_328 (by decide) ?_
  refine z_iadd dL_law_329 ?_
  refine z_sald (j := i + 2) dL_law_330 (by exact sx i 2) (by omega) (by first | decide | omega) ?_
  refine z_Vi (As := [_, _]) dL_law_331 (by rfl) v_X7_answers l_L_30 (by first | decide | assumption | omega) rfl rfl rfl (by omega) (by decide) (Nat.le_of_ble_eq_true rfl) ?_
  refine x_answers hX (by omega) ?_
  intro c1 hf1 hX1
  obtain ⟨n, t, m, hv, h3, ht, h4, hm, hkk, hz, hs⟩ := RX_ref hX hf1
  refine z_aload_n (i := 2) dL_law_334 rfl rfl ?_
  refine z_aload_n (i := 0) dL_law_335 rfl rfl ?_
  refine z_iload_n (i := 3) dL_law_336 rfl rfl ?_
  refine z_iconst (v := 1) dL_law_337 (by decide) ?_
  refine z_iadd dL_law_338 ?_
  refine z_sald (j := i + 1) dL_law_339 (by exact sx i 1) (by omega) (by first | decide | omega) ?_
  refine z_aload_n (i := 0) dL_law_340 rfl rfl ?_
  refine z_iload_n (i := 3) dL_law_341 rfl rfl ?_
  refine z_iconst (v := 2) dL_law_342 (by decide) ?_
  refine z_iadd dL_law_343 ?_
  refine z_sald (j := i + 2) dL_law_344 (by exact sx i 2) (by omega) (by first | decide | omega) ?_
  refine z_Vi (As := [_, _]) dL_law_345 (by rfl) v_X8_answers l_L_33 (by first | decide | assumption | omega) rfl rfl rfl (by omega) (by decide) (Nat.le_of_ble_eq_true rfl) ?_
  refine o8_answers (n := n) hv (by omega) ?_
  intro r c2 hf2 he2
  have hq := law_eq (fun σ => o_answers σ _ _) hf1 hX1 hf2 he2
  refine z_icmp_eq 1343 dL_law_348 (by decide) (fun h_348 => ?_) (fun h_348 => ?_)
  rotate_left
  · exact absurd hq.1 h_348
  exact nxt c2 hq.2
theorem lw_puts (hX : RX c (mst c)) (hi : i + 6 ≤ E.2.2.1) (hL : E.2.2.1 ≤ 3072) (hd : 120 ≤ d) (nxt : ∀ c2, RX c2 (mst c2) → zW l E ad RL cL_law 4 3 d Qf 1343 [some (.ref (ad 72)), some (.ref (ad 0)), some (.ref (ad 51)), some (.int (nI i))] [] c2) : zW l E ad RL cL_law 4 3 d Qf 353 [some (.ref (ad 72)), some (.ref (ad 0)), some (.ref (ad 51)), some (.int (nI i))] [] c := by
  refine z_aload_n (i := 1) dL_law_353 rfl rfl ?_
  refine z_aload_n (i := 0) dL_law_354 rfl rfl ?_
  refine z_iload_n (i := 3) dL_law_355 rfl rfl ?_
  refine z_iconst (v := 1) dL_law_356 (by decide) ?_
  refine z_iadd dL_law_357 ?_
  refine z_sald (j := i + 1) dL_law_358 (by exact sx i 1) (by omega) (by first | decide | omega) ?_
  refine z_aload_n (i := 0) dL_law_359 rfl rfl ?_
  refine z_iload_n (i := 3) dL_law_360 rfl rfl ?_
  refine z_iconst (v := 2) dL_law_361 (by decide) ?_
  refine z_iadd dL_law_362 ?_
  refine z_sald (j := i + 2) dL_law_363 (by exact sx i 2) (by omega) (by first | decide | omega) ?_
  refine z_Vi (As := [_, _]) dL_law_364 (by rfl) v_X7_puts l_L_34 (by first | decide | assumption | omega) rfl rfl rfl (by omega) (by decide) (Nat.le_of_ble_eq_true rfl) ?_
  refine x_puts hX (by omega) ?_
  intro c1 hf1 hX1
  obtain ⟨n, t, m, hv, h3, ht, h4, hm, hkk, hz, hs⟩ := RX_ref hX hf1
  refine z_aload_n (i := 2) dL_law_367 rfl rfl ?_
  refine z_aload_n (i := 0) dL_law_368 rfl rfl ?_
  refine z_iload_n (i := 3) dL_law_369 rfl rfl ?_
  refine z_iconst (v := 1) dL_law_370 (by decide) ?_
  refine z_iadd dL_law_371 ?_
  refine z_sald (j := i + 1) dL_law_372 (by exact sx i 1) (by omega) (by first | decide | omega) ?_
  refine z_aload_n (i := 0) dL_law_373 rfl rfl ?_
  refine z_iload_n (i := 3) dL_law_374 rfl rfl ?_
  refine z_iconst (v := 2) dL_law_375 (by decide) ?_
  refine z_iadd dL_law_376 ?_
  refine z_sald (j := i + 2) dL_law_377 (by exact sx i 2) (by omega) (by first | decide | omega) ?_
  refine z_Vi (As := [_, _]) dL_law_378 (by rfl) v_X8_puts l_L_37 (by first | decide | assumption | omega) rfl rfl rfl (by omega) (by decide) (Nat.le_of_ble_eq_true rfl) ?_
  refine o8_puts (n := n) hv (by omega) ?_
  intro r c2 hf2 he2
  have hq := law_eq (fun σ => o_puts σ _ _) hf1 hX1 hf2 he2
  refine z_icmp_eq 1343 dL_law_381 (by decide) (fun h_381 => ?_) (fun h_381 => ?_)
  rotate_left
  · exact absurd hq.1 h_381
  exact nxt c2 hq.2
theorem lw_drop (hX : RX c (mst c)) (hi : i + 6 ≤ E.2.2.1) (hL : E.2.2.1 ≤ 3072) (hd : 120 ≤ d) (nxt : ∀ c2, RX c2 (mst c2) → zW l E ad RL cL_law 4 3 d Qf 1343 [some (.ref (ad 72)), some (.ref (ad 0)), some (.ref (ad 51)), some (.int (nI i))] [] c2) : zW l E ad RL cL_law 4 3 d Qf 386 [some (.ref (ad 72)), some (.ref (ad 0)), some (.ref (ad 51)), some (.int (nI i))] [] c := by
  refine z_aload_n (i := 1) dL_law_386 rfl rfl ?_
  refine z_aload_n (i := 0) dL_law_387 rfl rfl ?_
  refine z_iload_n (i := 3) dL_law_388 rfl rfl ?_
  refine z_iconst (v := 1) dL_law_389 (by decide) ?_
  refine z_iadd dL_law_390 ?_
  refine z_sald (j := i + 1) dL_law_391 (by exact sx i 1) (by omega) (by first | decide | omega) ?_
  refine z_aload_n (i := 0) dL_law_392 rfl rfl ?_
  refine z_iload_n (i := 3) dL_law_393 rfl rfl ?_
  refine z_iconst (v := 2) dL_law_394 (by decide) ?_
  refine z_iadd dL_law_395 ?_
  refine z_sald (j := i + 2) dL_law_396 (by exact sx i 2) (by omega) (by first | decide | omega) ?_
  refine z_Vi (As := [_, _]) dL_law_397 (by rfl) v_X7_drop l_L_38 (by first | decide | assumption | omega) rfl rfl rfl (by omega) (by decide) (Nat.le_of_ble_eq_true rfl) ?_
  refine x_drop hX (by omega) ?_
  intro c1 hf1 hX1
  obtain ⟨n, t, m, hv, h3, ht, h4, hm, hkk, hz, hs⟩ := RX_ref hX hf1
  refine z_aload_n (i := 2) dL_law_400 rfl rfl ?_
  refine z_aload_n (i := 0) dL_law_401 rfl rfl ?_
  refine z_iload_n (i := 3) dL_law_402 rfl rfl ?_
  refine z_iconst (v := 1) dL_law_403 (by decide) ?_
  refine z_iadd dL_law_404 ?_
  refine z_sald (j := i + 1) dL_law_405 (by exact sx i 1) (by omega) (by first | decide | omega) ?_
  refine z_aload_n (i := 0) dL_law_406 rfl rfl ?_
  refine z_iload_n (i := 3) dL_law_407 rfl rfl ?_
  refine z_iconst (v := 2) dL_law_408 (by decide) ?_
  refine z_iadd dL_law_409 ?_
  refine z_sald (j := i + 2) dL_law_410 (by exact sx i 2) (by omega) (by first | decide | omega) ?_
  refine z_Vi (As := [_, _]) dL_law_411 (by rfl) v_X8_drop l_L_41 (by first | decide | assumption | omega) rfl rfl rfl (by omega) (by decide) (Nat.le_of_ble_eq_true rfl) ?_
  refine o8_drop  (by omega) ?_
  intro r c2 hf2 he2
  have hq := law_eq (fun σ => o_drop σ _ _) hf1 hX1 hf2 he2
  refine z_icmp_eq 1343 dL_law_414 (by decide) (fun h_414 => ?_) (fun h_414 => ?_)
  rotate_left
  · exact absurd hq.1 h_414
  exact nxt c2 hq.2
theorem lw_feed (hX : RX c (mst c)) (hi : i + 6 ≤ E.2.2.1) (hL : E.2.2.1 ≤ 3072) (hd : 120 ≤ d) (nxt : ∀ c2, RX c2 (mst c2) → zW l E ad RL cL_law 4 3 d Qf 1343 [some (.ref (ad 72)), some (.ref (ad 0)), some (.ref (ad 51)), some (.int (nI i))] [] c2) : zW l E ad RL cL_law 4 3 d Qf 419 [some (.ref (ad 72)), some (.ref (ad 0)), some (.ref (ad 51)), some (.int (nI i))] [] c := by
  refine z_aload_n (i := 1) dL_law_419 rfl rfl ?_
  refine z_aload_n (i := 0) dL_law_420 rfl rfl ?_
  refine z_iload_n (i := 3) dL_law_421 rfl rfl ?_
  refine z_iconst (v := 1) dL_law_422 (by decide) ?_
  refine z_iadd dL_law_423 ?_
  refine z_sald (j := i + 1) dL_law_424 (by exact sx i 1) (by omega) (by first | decide | omega) ?_
  refine z_i2l dL_law_425 ?_
  refine z_bipush (v := 32) dL_law_426 (by decide) ?_
  refine z_lshl dL_law_428 ?_
  refine z_aload_n (i := 0) dL_law_429 rfl rfl ?_
  refine z_iload_n (i := 3) dL_law_430 rfl rfl ?_
  refine z_iconst (v := 2) dL_law_431 (by decide) ?_
  refine z_iadd dL_law_432 ?_
  refine z_sald (j := i + 2) dL_law_433 (by exact sx i 2) (by omega) (by first | decide | omega) ?_
  refine z_i2l dL_law_434 ?_
  refine z_ldc2_w dL_law_435 k_L_42 ?_
  refine z_land dL_law_438 ?_
  refine z_lor dL_law_439 ?_
  refine z_aload_n (i := 0) dL_law_440 rfl rfl ?_
  refine z_iload_n (i := 3) dL_law_441 rfl rfl ?_
  refine z_iconst (v := 3) dL_law_442 (by decide) ?_
  refine z_iadd dL_law_443 ?_
  refine z_sald (j := i + 3) dL_law_444 (by exact sx i 3) (by omega) (by first | decide | omega) ?_
  refine z_Vi (As := [_, _]) dL_law_445 (by rfl) v_X7_feed l_L_44 (by first | decide | assumption | omega) rfl rfl rfl (by omega) (by decide) (Nat.le_of_ble_eq_true rfl) ?_
  refine x_feed hX (by omega) ?_
  intro c1 hf1 hX1
  obtain ⟨n, t, m, hv, h3, ht, h4, hm, hkk, hz, hs⟩ := RX_ref hX hf1
  refine z_aload_n (i := 2) dL_law_448 rfl rfl ?_
  refine z_aload_n (i := 0) dL_law_449 rfl rfl ?_
  refine z_iload_n (i := 3) dL_law_450 rfl rfl ?_
  refine z_iconst (v := 1) dL_law_451 (by decide) ?_
  refine z_iadd dL_law_452 ?_
  refine z_sald (j := i + 1) dL_law_453 (by exact sx i 1) (by omega) (by first | decide | omega) ?_
  refine z_i2l dL_law_454 ?_
  refine z_bipush (v := 32) dL_law_455 (by decide) ?_
  refine z_lshl dL_law_457 ?_
  refine z_aload_n (i := 0) dL_law_458 rfl rfl ?_
  refine z_iload_n (i := 3) dL_law_459 rfl rfl ?_
  refine z_iconst (v := 2) dL_law_460 (by decide) ?_
  refine z_iadd dL_law_461 ?_
  refine z_sald (j := i + 2) dL_law_462 (by exact sx i 2) (by omega) (by first | decide | omega) ?_
  refine z_i2l dL_law_463 ?_
  refine z_ldc2_w dL_law_464 k_L_42 ?_
  refine z_land dL_law_467 ?_
  refine z_lor dL_law_468 ?_
  refine z_aload_n (i := 0) dL_law_469 rfl rfl ?_
  refine z_iload_n (i := 3) dL_law_470 rfl rfl ?_
  refine z_iconst (v := 3) dL_law_471 (by decide) ?_
  refine z_iadd dL_law_472 ?_
  refine z_sald (j := i + 3) dL_law_473 (by exact sx i 3) (by omega) (by first | decide | omega) ?_
  refine z_Vi (As := [_, _]) dL_law_474 (by rfl) v_X8_feed l_L_48 (by first | decide | assumption | omega) rfl rfl rfl (by omega) (by decide) (Nat.le_of_ble_eq_true rfl) ?_
  refine o8_feed (t := t) h3 ht (by omega) ?_
  intro r c2 hf2 he2
  have hq := law_eq (fun σ => o_feed σ _ _) hf1 hX1 hf2 he2
  refine z_icmp_eq 1343 dL_law_477 (by decide) (fun h_477 => ?_) (fun h_477 => ?_)
  rotate_left
  · exact absurd hq.1 h_477
  exact nxt c2 hq.2
theorem lw_text (hX : RX c (mst c)) (hi : i + 6 ≤ E.2.2.1) (hL : E.2.2.1 ≤ 3072) (hd : 120 ≤ d) (nxt : ∀ c2, RX c2 (mst c2) → zW l E ad RL cL_law 4 3 d Qf 1343 [some (.ref (ad 72)), some (.ref (ad 0)), some (.ref (ad 51)), some (.int (nI i))] [] c2) : zW l E ad RL cL_law 4 3 d Qf 482 [some (.ref (ad 72)), some (.ref (ad 0)), some (.ref (ad 51)), some (.int (nI i))] [] c := by
  refine z_aload_n (i := 1) dL_law_482 rfl rfl ?_
  refine z_aload_n (i := 0) dL_law_483 rfl rfl ?_
  refine z_iload_n (i := 3) dL_law_484 rfl rfl ?_
  refine z_iconst (v := 1) dL_law_485 (by decide) ?_
  refine z_iadd dL_law_486 ?_
  refine z_sald (j := i + 1) dL_law_487 (by exact sx i 1) (by omega) (by first | decide | omega) ?_
  refine z_Vi (As := [_]) dL_law_488 (by rfl) v_X7_text l_L_49 (by first | decide | assumption | omega) rfl rfl rfl (by omega) (by decide) (Nat.le_of_ble_eq_true rfl) ?_
  refine x_text hX (by omega) ?_
  intro c1 hf1 hX1
  obtain ⟨n, t, m, hv, h3, ht, h4, hm, hkk, hz, hs⟩ := RX_ref hX hf1
  refine z_aload_n (i := 2) dL_law_491 rfl rfl ?_
  refine z_aload_n (i := 0) dL_law_492 rfl rfl ?_
  refine z_iload_n (i := 3) dL_law_493 rfl rfl ?_
  refine z_iconst (v := 1) dL_law_494 (by decide) ?_
  refine z_iadd dL_law_495 ?_
  refine z_sald (j := i + 1) dL_law_496 (by exact sx i 1) (by omega) (by first | decide | omega) ?_
  refine z_Vi (As := [_]) dL_law_497 (by rfl) v_X8_text l_L_53 (by first | decide | assumption | omega) rfl rfl rfl (by omega) (by decide) (Nat.le_of_ble_eq_true rfl) ?_
  refine o8_text (len := t) h3 ht (by omega) ?_
  intro r c2 hf2 he2
  have hq := law_eq (fun σ => o_text σ _) hf1 hX1 hf2 he2
  refine z_icmp_eq 1343 dL_law_500 (by decide) (fun h_500 => ?_) (fun h_500 => ?_)
  rotate_left
  · exact absurd hq.1 h_500
  exact nxt c2 hq.2
theorem lw_untell (hX : RX c (mst c)) (hi : i + 6 ≤ E.2.2.1) (hL : E.2.2.1 ≤ 3072) (hd : 120 ≤ d) (nxt : ∀ c2, RX c2 (mst c2) → zW l E ad RL cL_law 4 3 d Qf 1343 [some (.ref (ad 72)), some (.ref (ad 0)), some (.ref (ad 51)), some (.int (nI i))] [] c2) : zW l E ad RL cL_law 4 3 d Qf 505 [some (.ref (ad 72)), some (.ref (ad 0)), some (.ref (ad 51)), some (.int (nI i))] [] c := by
  refine z_aload_n (i := 1) dL_law_505 rfl rfl ?_
  refine z_aload_n (i := 0) dL_law_506 rfl rfl ?_
  refine z_iload_n (i := 3) dL_law_507 rfl rfl ?_
  refine z_iconst (v := 1) dL_law_508 (by decide) ?_
  refine z_iadd dL_law_509 ?_
  refine z_sald (j := i + 1) dL_law_510 (by exact sx i 1) (by omega) (by first | decide | omega) ?_
  refine z_Vi (As := [_]) dL_law_511 (by rfl) v_X7_untell l_L_54 (by first | decide | assumption | omega) rfl rfl rfl (by omega) (by decide) (Nat.le_of_ble_eq_true rfl) ?_
  refine x_untell hX (by omega) ?_
  intro c1 hf1 hX1
  obtain ⟨n, t, m, hv, h3, ht, h4, hm, hkk, hz, hs⟩ := RX_ref hX hf1
  refine z_aload_n (i := 2) dL_law_514 rfl rfl ?_
  refine z_aload_n (i := 0) dL_law_515 rfl rfl ?_
  refine z_iload_n (i := 3) dL_law_516 rfl rfl ?_
  refine z_iconst (v := 1) dL_law_517 (by decide) ?_
  refine z_iadd dL_law_518 ?_
  refine z_sald (j := i + 1) dL_law_519 (by exact sx i 1) (by omega) (by first | decide | omega) ?_
  refine z_Vi (As := [_]) dL_law_520 (by rfl) v_X8_untell l_L_57 (by first | decide | assumption | omega) rfl rfl rfl (by omega) (by decide) (Nat.le_of_ble_eq_true rfl) ?_
  refine o8_untell  (by omega) ?_
  intro r c2 hf2 he2
  have hq := law_eq (fun σ => o_untell σ _) hf1 hX1 hf2 he2
  refine z_icmp_eq 1343 dL_law_523 (by decide) (fun h_523 => ?_) (fun h_523 => ?_)
  rotate_left
  · exact absurd hq.1 h_523
  exact nxt c2 hq.2
theorem lw_law (hX : RX c (mst c)) (hi : i + 6 ≤ E.2.2.1) (hL : E.2.2.1 ≤ 3072) (hd : 120 ≤ d) (nxt : ∀ c2, RX c2 (mst c2) → zW l E ad RL cL_law 4 3 d Qf 1343 [some (.ref (ad 72)), some (.ref (ad 0)), some (.ref (ad 51)), some (.int (nI i))] [] c2) : zW l E ad RL cL_law 4 3 d Qf 528 [some (.ref (ad 72)), some (.ref (ad 0)), some (.ref (ad 51)), some (.int (nI i))] [] c := by
  refine z_aload_n (i := 1) dL_law_528 rfl rfl ?_
  refine z_aload_n (i := 0) dL_law_529 rfl rfl ?_
  refine z_iload_n (i := 3) dL_law_530 rfl rfl ?_
  refine z_iconst (v := 1) dL_law_531 (by decide) ?_
  refine z_iadd dL_law_532 ?_
  refine z_sald (j := i + 1) dL_law_533 (by exact sx i 1) (by omega) (by first | decide | omega) ?_
  refine z_aload_n (i := 0) dL_law_534 rfl rfl ?_
  refine z_iload_n (i := 3) dL_law_535 rfl rfl ?_
  refine z_iconst (v := 2) dL_law_536 (by decide) ?_
  refine z_iadd dL_law_537 ?_
  refine z_sald (j := i + 2) dL_law_538 (by exact sx i 2) (by omega) (by first | decide | omega) ?_
  refine z_aload_n (i := 0) dL_law_539 rfl rfl ?_
  refine z_iload_n (i := 3) dL_law_540 rfl rfl ?_
  refine z_iconst (v := 3) dL_law_541 (by decide) ?_
  refine z_iadd dL_law_542 ?_
  refine z_sald (j := i + 3) dL_law_543 (by exact sx i 3) (by omega) (by first | decide | omega) ?_
  refine z_aload_n (i := 0) dL_law_544 rfl rfl ?_
  refine z_iload_n (i := 3) dL_law_545 rfl rfl ?_
  refine z_iconst (v := 4) dL_law_546 (by decide) ?_
  refine z_iadd dL_law_547 ?_
  refine z_sald (j := i + 4) dL_law_548 (by exact sx i 4) (by omega) (by first | decide | omega) ?_
  refine z_Vi (As := [_, _, _, _]) dL_law_549 (by rfl) v_X7_law l_L_58 (by first | decide | assumption | omega) rfl rfl rfl (by omega) (by decide) (Nat.le_of_ble_eq_true rfl) ?_
  refine x_law hX (by omega) ?_
  intro c1 hf1 hX1
  obtain ⟨n, t, m, hv, h3, ht, h4, hm, hkk, hz, hs⟩ := RX_ref hX hf1
  refine z_aload_n (i := 2) dL_law_552 rfl rfl ?_
  refine z_aload_n (i := 0) dL_law_553 rfl rfl ?_
  refine z_iload_n (i := 3) dL_law_554 rfl rfl ?_
  refine z_iconst (v := 1) dL_law_555 (by decide) ?_
  refine z_iadd dL_law_556 ?_
  refine z_sald (j := i + 1) dL_law_557 (by exact sx i 1) (by omega) (by first | decide | omega) ?_
  refine z_aload_n (i := 0) dL_law_558 rfl rfl ?_
  refine z_iload_n (i := 3) dL_law_559 rfl rfl ?_
  refine z_iconst (v := 2) dL_law_560 (by decide) ?_
  refine z_iadd dL_law_561 ?_
  refine z_sald (j := i + 2) dL_law_562 (by exact sx i 2) (by omega) (by first | decide | omega) ?_
  refine z_aload_n (i := 0) dL_law_563 rfl rfl ?_
  refine z_iload_n (i := 3) dL_law_564 rfl rfl ?_
  refine z_iconst (v := 3) dL_law_565 (by decide) ?_
  refine z_iadd dL_law_566 ?_
  refine z_sald (j := i + 3) dL_law_567 (by exact sx i 3) (by omega) (by first | decide | omega) ?_
  refine z_aload_n (i := 0) dL_law_568 rfl rfl ?_
  refine z_iload_n (i := 3) dL_law_569 rfl rfl ?_
  refine z_iconst (v := 4) dL_law_570 (by decide) ?_
  refine z_iadd dL_law_571 ?_
  refine z_sald (j := i + 4) dL_law_572 (by exact sx i 4) (by omega) (by first | decide | omega) ?_
  refine z_Vi (As := [_, _, _, _]) dL_law_573 (by rfl) v_X8_law l_L_62 (by first | decide | assumption | omega) rfl rfl rfl (by omega) (by decide) (Nat.le_of_ble_eq_true rfl) ?_
  refine o8_law (n := n) hv (by omega) ?_
  intro r c2 hf2 he2
  have hq := law_eq (fun σ => o_law σ _ _ _ _) hf1 hX1 hf2 he2
  refine z_icmp_eq 1343 dL_law_576 (by decide) (fun h_576 => ?_) (fun h_576 => ?_)
  rotate_left
  · exact absurd hq.1 h_576
  exact nxt c2 hq.2
theorem lw_hours (hX : RX c (mst c)) (hi : i + 6 ≤ E.2.2.1) (hL : E.2.2.1 ≤ 3072) (hd : 120 ≤ d) (nxt : ∀ c2, RX c2 (mst c2) → zW l E ad RL cL_law 4 3 d Qf 1343 [some (.ref (ad 72)), some (.ref (ad 0)), some (.ref (ad 51)), some (.int (nI i))] [] c2) : zW l E ad RL cL_law 4 3 d Qf 581 [some (.ref (ad 72)), some (.ref (ad 0)), some (.ref (ad 51)), some (.int (nI i))] [] c := by
  refine z_aload_n (i := 1) dL_law_581 rfl rfl ?_
  refine z_aload_n (i := 0) dL_law_582 rfl rfl ?_
  refine z_iload_n (i := 3) dL_law_583 rfl rfl ?_
  refine z_iconst (v := 1) dL_law_584 (by decide) ?_
  refine z_iadd dL_law_585 ?_
  refine z_sald (j := i + 1) dL_law_586 (by exact sx i 1) (by omega) (by first | decide | omega) ?_
  refine z_Vi (As := [_]) dL_law_587 (by rfl) v_X7_hours l_L_63 (by first | decide | assumption | omega) rfl rfl rfl (by omega) (by decide) (Nat.le_of_ble_eq_true rfl) ?_
  refine x_hours hX (by omega) ?_
  intro c1 hf1 hX1
  obtain ⟨n, t, m, hv, h3, ht, h4, hm, hkk, hz, hs⟩ := RX_ref hX hf1
  refine z_aload_n (i := 2) dL_law_590 rfl rfl ?_
  refine z_aload_n (i := 0) dL_law_591 rfl rfl ?_
  refine z_iload_n (i := 3) dL_law_592 rfl rfl ?_
  refine z_iconst (v := 1) dL_law_593 (by decide) ?_
  refine z_iadd dL_law_594 ?_
  refine z_sald (j := i + 1) dL_law_595 (by exact sx i 1) (by omega) (by first | decide | omega) ?_
  refine z_Vi (As := [_]) dL_law_596 (by rfl) v_X8_hours l_L_66 (by first | decide | assumption | omega) rfl rfl rfl (by omega) (by decide) (Nat.le_of_ble_eq_true rfl) ?_
  refine o8_hours (n := n) hv (by omega) ?_
  intro r c2 hf2 he2
  have hq := law_eq (fun σ => o_hours σ _) hf1 hX1 hf2 he2
  refine z_icmp_eq 1343 dL_law_599 (by decide) (fun h_599 => ?_) (fun h_599 => ?_)
  rotate_left
  · exact absurd hq.1 h_599
  exact nxt c2 hq.2
theorem lw_loose (hX : RX c (mst c)) (hi : i + 6 ≤ E.2.2.1) (hL : E.2.2.1 ≤ 3072) (hd : 120 ≤ d) (nxt : ∀ c2, RX c2 (mst c2) → zW l E ad RL cL_law 4 3 d Qf 1343 [some (.ref (ad 72)), some (.ref (ad 0)), some (.ref (ad 51)), some (.int (nI i))] [] c2) : zW l E ad RL cL_law 4 3 d Qf 604 [some (.ref (ad 72)), some (.ref (ad 0)), some (.ref (ad 51)), some (.int (nI i))] [] c := by
  refine z_aload_n (i := 1) dL_law_604 rfl rfl ?_
  refine z_aload_n (i := 0) dL_law_605 rfl rfl ?_
  refine z_iload_n (i := 3) dL_law_606 rfl rfl ?_
  refine z_iconst (v := 1) dL_law_607 (by decide) ?_
  refine z_iadd dL_law_608 ?_
  refine z_sald (j := i + 1) dL_law_609 (by exact sx i 1) (by omega) (by first | decide | omega) ?_
  refine z_Vi (As := [_]) dL_law_610 (by rfl) v_X7_loose l_L_67 (by first | decide | assumption | omega) rfl rfl rfl (by omega) (by decide) (Nat.le_of_ble_eq_true rfl) ?_
  refine x_loose hX (by omega) ?_
  intro c1 hf1 hX1
  obtain ⟨n, t, m, hv, h3, ht, h4, hm, hkk, hz, hs⟩ := RX_ref hX hf1
  refine z_aload_n (i := 2) dL_law_613 rfl rfl ?_
  refine z_aload_n (i := 0) dL_law_614 rfl rfl ?_
  refine z_iload_n (i := 3) dL_law_615 rfl rfl ?_
  refine z_iconst (v := 1) dL_law_616 (by decide) ?_
  refine z_iadd dL_law_617 ?_
  refine z_sald (j := i + 1) dL_law_618 (by exact sx i 1) (by omega) (by first | decide | omega) ?_
  refine z_Vi (As := [_]) dL_law_619 (by rfl) v_X8_loose l_L_70 (by first | decide | assumption | omega) rfl rfl rfl (by omega) (by decide) (Nat.le_of_ble_eq_true rfl) ?_
  refine o8_loose (n := n) hv (by omega) ?_
  intro r c2 hf2 he2
  have hq := law_eq (fun σ => o_loose σ _) hf1 hX1 hf2 he2
  refine z_icmp_eq 1343 dL_law_622 (by decide) (fun h_622 => ?_) (fun h_622 => ?_)
  rotate_left
  · exact absurd hq.1 h_622
  exact nxt c2 hq.2
theorem lw_hour (hX : RX c (mst c)) (hi : i + 6 ≤ E.2.2.1) (hL : E.2.2.1 ≤ 3072) (hd : 120 ≤ d) (nxt : ∀ c2, RX c2 (mst c2) → zW l E ad RL cL_law 4 3 d Qf 1343 [some (.ref (ad 72)), some (.ref (ad 0)), some (.ref (ad 51)), some (.int (nI i))] [] c2) : zW l E ad RL cL_law 4 3 d Qf 627 [some (.ref (ad 72)), some (.ref (ad 0)), some (.ref (ad 51)), some (.int (nI i))] [] c := by
  refine z_aload_n (i := 1) dL_law_627 rfl rfl ?_
  refine z_aload_n (i := 0) dL_law_628 rfl rfl ?_
  refine z_iload_n (i := 3) dL_law_629 rfl rfl ?_
  refine z_iconst (v := 1) dL_law_630 (by decide) ?_
  refine z_iadd dL_law_631 ?_
  refine z_sald (j := i + 1) dL_law_632 (by exact sx i 1) (by omega) (by first | decide | omega) ?_
  refine z_Vi (As := [_]) dL_law_633 (by rfl) v_X7_hour l_L_71 (by first | decide | assumption | omega) rfl rfl rfl (by omega) (by decide) (Nat.le_of_ble_eq_true rfl) ?_
  refine x_hour hX (by omega) ?_
  intro c1 hf1 hX1
  obtain ⟨n, t, m, hv, h3, ht, h4, hm, hkk, hz, hs⟩ := RX_ref hX hf1
  refine z_aload_n (i := 2) dL_law_636 rfl rfl ?_
  refine z_aload_n (i := 0) dL_law_637 rfl rfl ?_
  refine z_iload_n (i := 3) dL_law_638 rfl rfl ?_
  refine z_iconst (v := 1) dL_law_639 (by decide) ?_
  refine z_iadd dL_law_640 ?_
  refine z_sald (j := i + 1) dL_law_641 (by exact sx i 1) (by omega) (by first | decide | omega) ?_
  refine z_Vi (As := [_]) dL_law_642 (by rfl) v_X8_hour l_L_74 (by first | decide | assumption | omega) rfl rfl rfl (by omega) (by decide) (Nat.le_of_ble_eq_true rfl) ?_
  refine o8_hour  (by omega) ?_
  intro r c2 hf2 he2
  have hq := law_eq (fun σ => o_hour σ _) hf1 hX1 hf2 he2
  refine z_icmp_eq 1343 dL_law_645 (by decide) (fun h_645 => ?_) (fun h_645 => ?_)
  rotate_left
  · exact absurd hq.1 h_645
  exact nxt c2 hq.2
theorem lw_seed (hX : RX c (mst c)) (hi : i + 6 ≤ E.2.2.1) (hL : E.2.2.1 ≤ 3072) (hd : 120 ≤ d) (nxt : ∀ c2, RX c2 (mst c2) → zW l E ad RL cL_law 4 3 d Qf 1343 [some (.ref (ad 72)), some (.ref (ad 0)), some (.ref (ad 51)), some (.int (nI i))] [] c2) : zW l E ad RL cL_law 4 3 d Qf 650 [some (.ref (ad 72)), some (.ref (ad 0)), some (.ref (ad 51)), some (.int (nI i))] [] c := by
  refine z_aload_n (i := 1) dL_law_650 rfl rfl ?_
  refine z_aload_n (i := 0) dL_law_651 rfl rfl ?_
  refine z_iload_n (i := 3) dL_law_652 rfl rfl ?_
  refine z_iconst (v := 1) dL_law_653 (by decide) ?_
  refine z_iadd dL_law_654 ?_
  refine z_sald (j := i + 1) dL_law_655 (by exact sx i 1) (by omega) (by first | decide | omega) ?_
  refine z_Vi (As := [_]) dL_law_656 (by rfl) v_X7_seed l_L_75 (by first | decide | assumption | omega) rfl rfl rfl (by omega) (by decide) (Nat.le_of_ble_eq_true rfl) ?_
  refine x_seed hX (by omega) ?_
  intro c1 hf1 hX1
  obtain ⟨n, t, m, hv, h3, ht, h4, hm, hkk, hz, hs⟩ := RX_ref hX hf1
  refine z_aload_n (i := 2) dL_law_659 rfl rfl ?_
  refine z_aload_n (i := 0) dL_law_660 rfl rfl ?_
  refine z_iload_n (i := 3) dL_law_661 rfl rfl ?_
  refine z_iconst (v := 1) dL_law_662 (by decide) ?_
  refine z_iadd dL_law_663 ?_
  refine z_sald (j := i + 1) dL_law_664 (by exact sx i 1) (by omega) (by first | decide | omega) ?_
  refine z_Vi (As := [_]) dL_law_665 (by rfl) v_X8_seed l_L_78 (by first | decide | assumption | omega) rfl rfl rfl (by omega) (by decide) (Nat.le_of_ble_eq_true rfl) ?_
  refine o8_seed  (by omega) ?_
  intro r c2 hf2 he2
  have hq := law_eq (fun σ => o_seed σ _) hf1 hX1 hf2 he2
  refine z_icmp_eq 1343 dL_law_668 (by decide) (fun h_668 => ?_) (fun h_668 => ?_)
  rotate_left
  · exact absurd hq.1 h_668
  exact nxt c2 hq.2
theorem lw_then (hX : RX c (mst c)) (hi : i + 6 ≤ E.2.2.1) (hL : E.2.2.1 ≤ 3072) (hd : 120 ≤ d) (nxt : ∀ c2, RX c2 (mst c2) → zW l E ad RL cL_law 4 3 d Qf 1343 [some (.ref (ad 72)), some (.ref (ad 0)), some (.ref (ad 51)), some (.int (nI i))] [] c2) : zW l E ad RL cL_law 4 3 d Qf 673 [some (.ref (ad 72)), some (.ref (ad 0)), some (.ref (ad 51)), some (.int (nI i))] [] c := by
  refine z_aload_n (i := 1) dL_law_673 rfl rfl ?_
  refine z_aload_n (i := 0) dL_law_674 rfl rfl ?_
  refine z_iload_n (i := 3) dL_law_675 rfl rfl ?_
  refine z_iconst (v := 1) dL_law_676 (by decide) ?_
  refine z_iadd dL_law_677 ?_
  refine z_sald (j := i + 1) dL_law_678 (by exact sx i 1) (by omega) (by first | decide | omega) ?_
  refine z_aload_n (i := 0) dL_law_679 rfl rfl ?_
  refine z_iload_n (i := 3) dL_law_680 rfl rfl ?_
  refine z_iconst (v := 2) dL_law_681 (by decide) ?_
  refine z_iadd dL_law_682 ?_
  refine z_sald (j := i + 2) dL_law_683 (by exact sx i 2) (by omega) (by first | decide | omega) ?_
  refine z_aload_n (i := 0) dL_law_684 rfl rfl ?_
  refine z_iload_n (i := 3) dL_law_685 rfl rfl ?_
  refine z_iconst (v := 3) dL_law_686 (by decide) ?_
  refine z_iadd dL_law_687 ?_
  refine z_sald (j := i + 3) dL_law_688 (by exact sx i 3) (by omega) (by first | decide | omega) ?_
  refine z_Vi (As := [_, _, _]) dL_law_689 (by rfl) v_X7_then l_L_79 (by first | decide | assumption | omega) rfl rfl rfl (by omega) (by decide) (Nat.le_of_ble_eq_true rfl) ?_
  refine x_then hX (by omega) ?_
  intro c1 hf1 hX1
  obtain ⟨n, t, m, hv, h3, ht, h4, hm, hkk, hz, hs⟩ := RX_ref hX hf1
  refine z_aload_n (i := 2) dL_law_692 rfl rfl ?_
  refine z_aload_n (i := 0) dL_law_693 rfl rfl ?_
  refine z_iload_n (i := 3) dL_law_694 rfl rfl ?_
  refine z_iconst (v := 1) dL_law_695 (by decide) ?_
  refine z_iadd dL_law_696 ?_
  refine z_sald (j := i + 1) dL_law_697 (by exact sx i 1) (by omega) (by first | decide | omega) ?_
  refine z_aload_n (i := 0) dL_law_698 rfl rfl ?_
  refine z_iload_n (i := 3) dL_law_699 rfl rfl ?_
  refine z_iconst (v := 2) dL_law_700 (by decide) ?_
  refine z_iadd dL_law_701 ?_
  refine z_sald (j := i + 2) dL_law_702 (by exact sx i 2) (by omega) (by first | decide | omega) ?_
  refine z_aload_n (i := 0) dL_law_703 rfl rfl ?_
  refine z_iload_n (i := 3) dL_law_704 rfl rfl ?_
  refine z_iconst (v := 3) dL_law_705 (by decide) ?_
  refine z_iadd dL_law_706 ?_
  refine z_sald (j := i + 3) dL_law_707 (by exact sx i 3) (by omega) (by first | decide | omega) ?_
  refine z_Vi (As := [_, _, _]) dL_law_708 (by rfl) v_X8_then l_L_83 (by first | decide | assumption | omega) rfl rfl rfl (by omega) (by decide) (Nat.le_of_ble_eq_true rfl) ?_
  refine o8_then (n := n) hv (by omega) ?_
  intro r c2 hf2 he2
  have hq := law_eq (fun σ => o_then σ _ _ _) hf1 hX1 hf2 he2
  refine z_icmp_eq 1343 dL_law_711 (by decide) (fun h_711 => ?_) (fun h_711 => ?_)
  rotate_left
  · exact absurd hq.1 h_711
  exact nxt c2 hq.2
theorem lw_soonest (hX : RX c (mst c)) (hi : i + 6 ≤ E.2.2.1) (hL : E.2.2.1 ≤ 3072) (hd : 120 ≤ d) (nxt : ∀ c2, RX c2 (mst c2) → zW l E ad RL cL_law 4 3 d Qf 1343 [some (.ref (ad 72)), some (.ref (ad 0)), some (.ref (ad 51)), some (.int (nI i))] [] c2) : zW l E ad RL cL_law 4 3 d Qf 716 [some (.ref (ad 72)), some (.ref (ad 0)), some (.ref (ad 51)), some (.int (nI i))] [] c := by
  refine z_aload_n (i := 1) dL_law_716 rfl rfl ?_
  refine z_aload_n (i := 0) dL_law_717 rfl rfl ?_
  refine z_iload_n (i := 3) dL_law_718 rfl rfl ?_
  refine z_iconst (v := 1) dL_law_719 (by decide) ?_
  refine z_iadd dL_law_720 ?_
  refine z_sald (j := i + 1) dL_law_721 (by exact sx i 1) (by omega) (by first | decide | omega) ?_
  refine z_aload_n (i := 0) dL_law_722 rfl rfl ?_
  refine z_iload_n (i := 3) dL_law_723 rfl rfl ?_
  refine z_iconst (v := 2) dL_law_724 (by decide) ?_
  refine z_iadd dL_law_725 ?_
  refine z_sald (j := i + 2) dL_law_726 (by exact sx i 2) (by omega) (by first | decide | omega) ?_
  refine z_Vi (As := [_, _]) dL_law_727 (by rfl) v_X7_soonest l_L_84 (by first | decide | assumption | omega) rfl rfl rfl (by omega) (by decide) (Nat.le_of_ble_eq_true rfl) ?_
  refine x_soonest hX (by omega) ?_
  intro c1 hf1 hX1
  obtain ⟨n, t, m, hv, h3, ht, h4, hm, hkk, hz, hs⟩ := RX_ref hX hf1
  refine z_aload_n (i := 2) dL_law_730 rfl rfl ?_
  refine z_aload_n (i := 0) dL_law_731 rfl rfl ?_
  refine z_iload_n (i := 3) dL_law_732 rfl rfl ?_
  refine z_iconst (v := 1) dL_law_733 (by decide) ?_
  refine z_iadd dL_law_734 ?_
  refine z_sald (j := i + 1) dL_law_735 (by exact sx i 1) (by omega) (by first | decide | omega) ?_
  refine z_aload_n (i := 0) dL_law_736 rfl rfl ?_
  refine z_iload_n (i := 3) dL_law_737 rfl rfl ?_
  refine z_iconst (v := 2) dL_law_738 (by decide) ?_
  refine z_iadd dL_law_739 ?_
  refine z_sald (j := i + 2) dL_law_740 (by exact sx i 2) (by omega) (by first | decide | omega) ?_
  refine z_Vi (As := [_, _]) dL_law_741 (by rfl) v_X8_soonest l_L_87 (by first | decide | assumption | omega) rfl rfl rfl (by omega) (by decide) (Nat.le_of_ble_eq_true rfl) ?_
  refine o8_soonest (n := n) hv (by omega) ?_
  intro r c2 hf2 he2
  have hq := law_eq (fun σ => o_soonest σ _ _) hf1 hX1 hf2 he2
  refine z_icmp_eq 1343 dL_law_744 (by decide) (fun h_744 => ?_) (fun h_744 => ?_)
  rotate_left
  · exact absurd hq.1 h_744
  exact nxt c2 hq.2
theorem lw_least (hX : RX c (mst c)) (hi : i + 6 ≤ E.2.2.1) (hL : E.2.2.1 ≤ 3072) (hd : 120 ≤ d) (nxt : ∀ c2, RX c2 (mst c2) → zW l E ad RL cL_law 4 3 d Qf 1343 [some (.ref (ad 72)), some (.ref (ad 0)), some (.ref (ad 51)), some (.int (nI i))] [] c2) : zW l E ad RL cL_law 4 3 d Qf 749 [some (.ref (ad 72)), some (.ref (ad 0)), some (.ref (ad 51)), some (.int (nI i))] [] c := by
  refine z_aload_n (i := 1) dL_law_749 rfl rfl ?_
  refine z_aload_n (i := 0) dL_law_750 rfl rfl ?_
  refine z_iload_n (i := 3) dL_law_751 rfl rfl ?_
  refine z_iconst (v := 1) dL_law_752 (by decide) ?_
  refine z_iadd dL_law_753 ?_
  refine z_sald (j := i + 1) dL_law_754 (by exact sx i 1) (by omega) (by first | decide | omega) ?_
  refine z_aload_n (i := 0) dL_law_755 rfl rfl ?_
  refine z_iload_n (i := 3) dL_law_756 rfl rfl ?_
  refine z_iconst (v := 2) dL_law_757 (by decide) ?_
  refine z_iadd dL_law_758 ?_
  refine z_sald (j := i + 2) dL_law_759 (by exact sx i 2) (by omega) (by first | decide | omega) ?_
  refine z_aload_n (i := 0) dL_law_760 rfl rfl ?_
  refine z_iload_n (i := 3) dL_law_761 rfl rfl ?_
  refine z_iconst (v := 3) dL_law_762 (by decide) ?_
  refine z_iadd dL_law_763 ?_
  refine z_sald (j := i + 3) dL_law_764 (by exact sx i 3) (by omega) (by first | decide | omega) ?_
  refine z_Vi (As := [_, _, _]) dL_law_765 (by rfl) v_X7_least l_L_88 (by first | decide | assumption | omega) rfl rfl rfl (by omega) (by decide) (Nat.le_of_ble_eq_true rfl) ?_
  refine x_least hX (by omega) ?_
  intro c1 hf1 hX1
  obtain ⟨n, t, m, hv, h3, ht, h4, hm, hkk, hz, hs⟩ := RX_ref hX hf1
  refine z_aload_n (i := 2) dL_law_768 rfl rfl ?_
  refine z_aload_n (i := 0) dL_law_769 rfl rfl ?_
  refine z_iload_n (i := 3) dL_law_770 rfl rfl ?_
  refine z_iconst (v := 1) dL_law_771 (by decide) ?_
  refine z_iadd dL_law_772 ?_
  refine z_sald (j := i + 1) dL_law_773 (by exact sx i 1) (by omega) (by first | decide | omega) ?_
  refine z_aload_n (i := 0) dL_law_774 rfl rfl ?_
  refine z_iload_n (i := 3) dL_law_775 rfl rfl ?_
  refine z_iconst (v := 2) dL_law_776 (by decide) ?_
  refine z_iadd dL_law_777 ?_
  refine z_sald (j := i + 2) dL_law_778 (by exact sx i 2) (by omega) (by first | decide | omega) ?_
  refine z_aload_n (i := 0) dL_law_779 rfl rfl ?_
  refine z_iload_n (i := 3) dL_law_780 rfl rfl ?_
  refine z_iconst (v := 3) dL_law_781 (by decide) ?_
  refine z_iadd dL_law_782 ?_
  refine z_sald (j := i + 3) dL_law_783 (by exact sx i 3) (by omega) (by first | decide | omega) ?_
  refine z_Vi (As := [_, _, _]) dL_law_784 (by rfl) v_X8_least l_L_91 (by first | decide | assumption | omega) rfl rfl rfl (by omega) (by decide) (Nat.le_of_ble_eq_true rfl) ?_
  refine o8_least (n := n) hv (by omega) ?_
  intro r c2 hf2 he2
  have hq := law_eq (fun σ => o_least σ _ _ _) hf1 hX1 hf2 he2
  refine z_icmp_eq 1343 dL_law_787 (by decide) (fun h_787 => ?_) (fun h_787 => ?_)
  rotate_left
  · exact absurd hq.1 h_787
  exact nxt c2 hq.2
theorem lw_fills (hX : RX c (mst c)) (hi : i + 6 ≤ E.2.2.1) (hL : E.2.2.1 ≤ 3072) (hd : 120 ≤ d) (nxt : ∀ c2, RX c2 (mst c2) → zW l E ad RL cL_law 4 3 d Qf 1343 [some (.ref (ad 72)), some (.ref (ad 0)), some (.ref (ad 51)), some (.int (nI i))] [] c2) : zW l E ad RL cL_law 4 3 d Qf 792 [some (.ref (ad 72)), some (.ref (ad 0)), some (.ref (ad 51)), some (.int (nI i))] [] c := by
  refine z_aload_n (i := 1) dL_law_792 rfl rfl ?_
  refine z_aload_n (i := 0) dL_law_793 rfl rfl ?_
  refine z_iload_n (i := 3) dL_law_794 rfl rfl ?_
  refine z_iconst (v := 1) dL_law_795 (by decide) ?_
  refine z_iadd dL_law_796 ?_
  refine z_sald (j := i + 1) dL_law_797 (by exact sx i 1) (by omega) (by first | decide | omega) ?_
  refine z_aload_n (i := 0) dL_law_798 rfl rfl ?_
  refine z_iload_n (i := 3) dL_law_799 rfl rfl ?_
  refine z_iconst (v := 2) dL_law_800 (by decide) ?_
  refine z_iadd dL_law_801 ?_
  refine z_sald (j := i + 2) dL_law_802 (by exact sx i 2) (by omega) (by first | decide | omega) ?_
  refine z_aload_n (i := 0) dL_law_803 rfl rfl ?_
  refine z_iload_n (i := 3) dL_law_804 rfl rfl ?_
  refine z_iconst (v := 3) dL_law_805 (by decide) ?_
  refine z_iadd dL_law_806 ?_
  refine z_sald (j := i + 3) dL_law_807 (by exact sx i 3) (by omega) (by first | decide | omega) ?_
  refine z_aload_n (i := 0) dL_law_808 rfl rfl ?_
  refine z_iload_n (i := 3) dL_law_809 rfl rfl ?_
  refine z_iconst (v := 4) dL_law_810 (by decide) ?_
  refine z_iadd dL_law_811 ?_
  refine z_sald (j := i + 4) dL_law_812 (by exact sx i 4) (by omega) (by first | decide | omega) ?_
  refine z_Vi (As := [_, _, _, _]) dL_law_813 (by rfl) v_X7_fills l_L_92 (by first | decide | assumption | omega) rfl rfl rfl (by omega) (by decide) (Nat.le_of_ble_eq_true rfl) ?_
  refine x_fills hX (by omega) ?_
  intro c1 hf1 hX1
  obtain ⟨n, t, m, hv, h3, ht, h4, hm, hkk, hz, hs⟩ := RX_ref hX hf1
  refine z_aload_n (i := 2) dL_law_816 rfl rfl ?_
  refine z_aload_n (i := 0) dL_law_817 rfl rfl ?_
  refine z_iload_n (i := 3) dL_law_818 rfl rfl ?_
  refine z_iconst (v := 1) dL_law_819 (by decide) ?_
  refine z_iadd dL_law_820 ?_
  refine z_sald (j := i + 1) dL_law_821 (by exact sx i 1) (by omega) (by first | decide | omega) ?_
  refine z_aload_n (i := 0) dL_law_822 rfl rfl ?_
  refine z_iload_n (i := 3) dL_law_823 rfl rfl ?_
  refine z_iconst (v := 2) dL_law_824 (by decide) ?_
  refine z_iadd dL_law_825 ?_
  refine z_sald (j := i + 2) dL_law_826 (by exact sx i 2) (by omega) (by first | decide | omega) ?_
  refine z_aload_n (i := 0) dL_law_827 rfl rfl ?_
  refine z_iload_n (i := 3) dL_law_828 rfl rfl ?_
  refine z_iconst (v := 3) dL_law_829 (by decide) ?_
  refine z_iadd dL_law_830 ?_
  refine z_sald (j := i + 3) dL_law_831 (by exact sx i 3) (by omega) (by first | decide | omega) ?_
  refine z_aload_n (i := 0) dL_law_832 rfl rfl ?_
  refine z_iload_n (i := 3) dL_law_833 rfl rfl ?_
  refine z_iconst (v := 4) dL_law_834 (by decide) ?_
  refine z_iadd dL_law_835 ?_
  refine z_sald (j := i + 4) dL_law_836 (by exact sx i 4) (by omega) (by first | decide | omega) ?_
  refine z_Vi (As := [_, _, _, _]) dL_law_837 (by rfl) v_X8_fills l_L_95 (by first | decide | assumption | omega) rfl rfl rfl (by omega) (by decide) (Nat.le_of_ble_eq_true rfl) ?_
  refine o8_fills (n := n) hv (by omega) ?_
  intro r c2 hf2 he2
  have hq := law_eq (fun σ => o_fills σ _ _ _ _) hf1 hX1 hf2 he2
  refine z_icmp_eq 1343 dL_law_840 (by decide) (fun h_840 => ?_) (fun h_840 => ?_)
  rotate_left
  · exact absurd hq.1 h_840
  exact nxt c2 hq.2
theorem lw_withWhom (hX : RX c (mst c)) (hi : i + 6 ≤ E.2.2.1) (hL : E.2.2.1 ≤ 3072) (hd : 120 ≤ d) (nxt : ∀ c2, RX c2 (mst c2) → zW l E ad RL cL_law 4 3 d Qf 1343 [some (.ref (ad 72)), some (.ref (ad 0)), some (.ref (ad 51)), some (.int (nI i))] [] c2) : zW l E ad RL cL_law 4 3 d Qf 845 [some (.ref (ad 72)), some (.ref (ad 0)), some (.ref (ad 51)), some (.int (nI i))] [] c := by
  refine z_aload_n (i := 1) dL_law_845 rfl rfl ?_
  refine z_aload_n (i := 0) dL_law_846 rfl rfl ?_
  refine z_iload_n (i := 3) dL_law_847 rfl rfl ?_
  refine z_iconst (v := 1) dL_law_848 (by decide) ?_
  refine z_iadd dL_law_849 ?_
  refine z_sald (j := i + 1) dL_law_850 (by exact sx i 1) (by omega) (by first | decide | omega) ?_
  refine z_aload_n (i := 0) dL_law_851 rfl rfl ?_
  refine z_iload_n (i := 3) dL_law_852 rfl rfl ?_
  refine z_iconst (v := 2) dL_law_853 (by decide) ?_
  refine z_iadd dL_law_854 ?_
  refine z_sald (j := i + 2) dL_law_855 (by exact sx i 2) (by omega) (by first | decide | omega) ?_
  refine z_Vi (As := [_, _]) dL_law_856 (by rfl) v_X7_withWhom l_L_96 (by first | decide | assumption | omega) rfl rfl rfl (by omega) (by decide) (Nat.le_of_ble_eq_true rfl) ?_
  refine x_withWhom hX (by omega) ?_
  intro c1 hf1 hX1
  obtain ⟨n, t, m, hv, h3, ht, h4, hm, hkk, hz, hs⟩ := RX_ref hX hf1
  refine z_aload_n (i := 2) dL_law_859 rfl rfl ?_
  refine z_aload_n (i := 0) dL_law_860 rfl rfl ?_
  refine z_iload_n (i := 3) dL_law_861 rfl rfl ?_
  refine z_iconst (v := 1) dL_law_862 (by decide) ?_
  refine z_iadd dL_law_863 ?_
  refine z_sald (j := i + 1) dL_law_864 (by exact sx i 1) (by omega) (by first | decide | omega) ?_
  refine z_aload_n (i := 0) dL_law_865 rfl rfl ?_
  refine z_iload_n (i := 3) dL_law_866 rfl rfl ?_
  refine z_iconst (v := 2) dL_law_867 (by decide) ?_
  refine z_iadd dL_law_868 ?_
  refine z_sald (j := i + 2) dL_law_869 (by exact sx i 2) (by omega) (by first | decide | omega) ?_
  refine z_Vi (As := [_, _]) dL_law_870 (by rfl) v_X8_withWhom l_L_99 (by first | decide | assumption | omega) rfl rfl rfl (by omega) (by decide) (Nat.le_of_ble_eq_true rfl) ?_
  refine o8_withWhom (n := n) hv (by omega) ?_
  intro r c2 hf2 he2
  have hq := law_eq (fun σ => o_withWhom σ _ _) hf1 hX1 hf2 he2
  refine z_icmp_eq 1343 dL_law_873 (by decide) (fun h_873 => ?_) (fun h_873 => ?_)
  rotate_left
  · exact absurd hq.1 h_873
  exact nxt c2 hq.2
theorem lw_odds (hX : RX c (mst c)) (hi : i + 6 ≤ E.2.2.1) (hL : E.2.2.1 ≤ 3072) (hd : 120 ≤ d) (nxt : ∀ c2, RX c2 (mst c2) → zW l E ad RL cL_law 4 3 d Qf 1343 [some (.ref (ad 72)), some (.ref (ad 0)), some (.ref (ad 51)), some (.int (nI i))] [] c2) : zW l E ad RL cL_law 4 3 d Qf 878 [some (.ref (ad 72)), some (.ref (ad 0)), some (.ref (ad 51)), some (.int (nI i))] [] c := by
  refine z_aload_n (i := 1) dL_law_878 rfl rfl ?_
  refine z_aload_n (i := 0) dL_law_879 rfl rfl ?_
  refine z_iload_n (i := 3) dL_law_880 rfl rfl ?_
  refine z_iconst (v := 1) dL_law_881 (by decide) ?_
  refine z_iadd dL_law_882 ?_
  refine z_sald (j := i + 1) dL_law_883 (by exact sx i 1) (by omega) (by first | decide | omega) ?_
  refine z_aload_n (i := 0) dL_law_884 rfl rfl ?_
  refine z_iload_n (i := 3) dL_law_885 rfl rfl ?_
  refine z_iconst (v := 2) dL_law_886 (by decide) ?_
  refine z_iadd dL_law_887 ?_
  refine z_sald (j := i + 2) dL_law_888 (by exact sx i 2) (by omega) (by first | decide | omega) ?_
  refine z_aload_n (i := 0) dL_law_889 rfl rfl ?_
  refine z_iload_n (i := 3) dL_law_890 rfl rfl ?_
  refine z_iconst (v := 3) dL_law_891 (by decide) ?_
  refine z_iadd dL_law_892 ?_
  refine z_sald (j := i + 3) dL_law_893 (by exact sx i 3) (by omega) (by first | decide | omega) ?_
  refine z_aload_n (i := 0) dL_law_894 rfl rfl ?_
  refine z_iload_n (i := 3) dL_law_895 rfl rfl ?_
  refine z_iconst (v := 4) dL_law_896 (by decide) ?_
  refine z_iadd dL_law_897 ?_
  refine z_sald (j := i + 4) dL_law_898 (by exact sx i 4) (by omega) (by first | decide | omega) ?_
  refine z_Vi (As := [_, _, _, _]) dL_law_899 (by rfl) v_X7_odds l_L_100 (by first | decide | assumption | omega) rfl rfl rfl (by omega) (by decide) (Nat.le_of_ble_eq_true rfl) ?_
  refine x_odds hX (by omega) ?_
  intro c1 hf1 hX1
  obtain ⟨n, t, m, hv, h3, ht, h4, hm, hkk, hz, hs⟩ := RX_ref hX hf1
  refine z_aload_n (i := 2) dL_law_902 rfl rfl ?_
  refine z_aload_n (i := 0) dL_law_903 rfl rfl ?_
  refine z_iload_n (i := 3) dL_law_904 rfl rfl ?_
  refine z_iconst (v := 1) dL_law_905 (by decide) ?_
  refine z_iadd dL_law_906 ?_
  refine z_sald (j := i + 1) dL_law_907 (by exact sx i 1) (by omega) (by first | decide | omega) ?_
  refine z_aload_n (i := 0) dL_law_908 rfl rfl ?_
  refine z_iload_n (i := 3) dL_law_909 rfl rfl ?_
  refine z_iconst (v := 2) dL_law_910 (by decide) ?_
  refine z_iadd dL_law_911 ?_
  refine z_sald (j := i + 2) dL_law_912 (by exact sx i 2) (by omega) (by first | decide | omega) ?_
  refine z_aload_n (i := 0) dL_law_913 rfl rfl ?_
  refine z_iload_n (i := 3) dL_law_914 rfl rfl ?_
  refine z_iconst (v := 3) dL_law_915 (by decide) ?_
  refine z_iadd dL_law_916 ?_
  refine z_sald (j := i + 3) dL_law_917 (by exact sx i 3) (by omega) (by first | decide | omega) ?_
  refine z_aload_n (i := 0) dL_law_918 rfl rfl ?_
  refine z_iload_n (i := 3) dL_law_919 rfl rfl ?_
  refine z_iconst (v := 4) dL_law_920 (by decide) ?_
  refine z_iadd dL_law_921 ?_
  refine z_sald (j := i + 4) dL_law_922 (by exact sx i 4) (by omega) (by first | decide | omega) ?_
  refine z_Vi (As := [_, _, _, _]) dL_law_923 (by rfl) v_X8_odds l_L_103 (by first | decide | assumption | omega) rfl rfl rfl (by omega) (by decide) (Nat.le_of_ble_eq_true rfl) ?_
  refine o8_odds (n := n) hv (by omega) ?_
  intro r c2 hf2 he2
  have hq := law_eq (fun σ => o_odds σ _ _ _ _) hf1 hX1 hf2 he2
  refine z_icmp_eq 1343 dL_law_926 (by decide) (fun h_926 => ?_) (fun h_926 => ?_)
  rotate_left
  · exact absurd hq.1 h_926
  exact nxt c2 hq.2
theorem lw_fits (hX : RX c (mst c)) (hi : i + 6 ≤ E.2.2.1) (hL : E.2.2.1 ≤ 3072) (hd : 120 ≤ d) (nxt : ∀ c2, RX c2 (mst c2) → zW l E ad RL cL_law 4 3 d Qf 1343 [some (.ref (ad 72)), some (.ref (ad 0)), some (.ref (ad 51)), some (.int (nI i))] [] c2) : zW l E ad RL cL_law 4 3 d Qf 931 [some (.ref (ad 72)), some (.ref (ad 0)), some (.ref (ad 51)), some (.int (nI i))] [] c := by
  refine z_aload_n (i := 1) dL_law_931 rfl rfl ?_
  refine z_aload_n (i := 0) dL_law_932 rfl rfl ?_
  refine z_iload_n (i := 3) dL_law_933 rfl rfl ?_
  refine z_iconst (v := 1) dL_law_934 (by decide) ?_
  refine z_iadd dL_law_935 ?_
  refine z_sald (j := i + 1) dL_law_936 (by exact sx i 1) (by omega) (by first | decide | omega) ?_
  refine z_aload_n (i := 0) dL_law_937 rfl rfl ?_
  refine z_iload_n (i := 3) dL_law_938 rfl rfl ?_
  refine z_iconst (v := 2) dL_law_939 (by decide) ?_
  refine z_iadd dL_law_940 ?_
  refine z_sald (j := i + 2) dL_law_941 (by exact sx i 2) (by omega) (by first | decide | omega) ?_
  refine z_aload_n (i := 0) dL_law_942 rfl rfl ?_
  refine z_iload_n (i := 3) dL_law_943 rfl rfl ?_
  refine z_iconst (v := 3) dL_law_944 (by decide) ?_
  refine z_iadd dL_law_945 ?_
  refine z_sald (j := i + 3) dL_law_946 (by exact sx i 3) (by omega) (by first | decide | omega) ?_
  refine z_Vi (As := [_, _, _]) dL_law_947 (by rfl) v_X7_fits l_L_104 (by first | decide | assumption | omega) rfl rfl rfl (by omega) (by decide) (Nat.le_of_ble_eq_true rfl) ?_
  refine x_fits hX (by omega) ?_
  intro c1 hf1 hX1
  obtain ⟨n, t, m, hv, h3, ht, h4, hm, hkk, hz, hs⟩ := RX_ref hX hf1
  refine z_aload_n (i := 2) dL_law_950 rfl rfl ?_
  refine z_aload_n (i := 0) dL_law_951 rfl rfl ?_
  refine z_iload_n (i := 3) dL_law_952 rfl rfl ?_
  refine z_iconst (v := 1) dL_law_953 (by decide) ?_
  refine z_iadd dL_law_954 ?_
  refine z_sald (j := i + 1) dL_law_955 (by exact sx i 1) (by omega) (by first | decide | omega) ?_
  refine z_aload_n (i := 0) dL_law_956 rfl rfl ?_
  refine z_iload_n (i := 3) dL_law_957 rfl rfl ?_
  refine z_iconst (v := 2) dL_law_958 (by decide) ?_
  refine z_iadd dL_law_959 ?_
  refine z_sald (j := i + 2) dL_law_960 (by exact sx i 2) (by omega) (by first | decide | omega) ?_
  refine z_aload_n (i := 0) dL_law_961 rfl rfl ?_
  refine z_iload_n (i := 3) dL_law_962 rfl rfl ?_
  refine z_iconst (v := 3) dL_law_963 (by decide) ?_
  refine z_iadd dL_law_964 ?_
  refine z_sald (j := i + 3) dL_law_965 (by exact sx i 3) (by omega) (by first | decide | omega) ?_
  refine z_Vi (As := [_, _, _]) dL_law_966 (by rfl) v_X8_fits l_L_107 (by first | decide | assumption | omega) rfl rfl rfl (by omega) (by decide) (Nat.le_of_ble_eq_true rfl) ?_
  refine o8_fits (n := n) hv hz (by omega) ?_
  intro r c2 hf2 he2
  have hq := law_eq (fun σ => o_fits σ _ _ _) hf1 hX1 hf2 he2
  refine z_icmp_eq 1343 dL_law_969 (by decide) (fun h_969 => ?_) (fun h_969 => ?_)
  rotate_left
  · exact absurd hq.1 h_969
  exact nxt c2 hq.2
theorem lw_voice (hX : RX c (mst c)) (hi : i + 6 ≤ E.2.2.1) (hL : E.2.2.1 ≤ 3072) (hd : 120 ≤ d) (nxt : ∀ c2, RX c2 (mst c2) → zW l E ad RL cL_law 4 3 d Qf 1343 [some (.ref (ad 72)), some (.ref (ad 0)), some (.ref (ad 51)), some (.int (nI i))] [] c2) : zW l E ad RL cL_law 4 3 d Qf 974 [some (.ref (ad 72)), some (.ref (ad 0)), some (.ref (ad 51)), some (.int (nI i))] [] c := by
  refine z_aload_n (i := 1) dL_law_974 rfl rfl ?_
  refine z_aload_n (i := 0) dL_law_975 rfl rfl ?_
  refine z_iload_n (i := 3) dL_law_976 rfl rfl ?_
  refine z_iconst (v := 1) dL_law_977 (by decide) ?_
  refine z_iadd dL_law_978 ?_
  refine z_sald (j := i + 1) dL_law_979 (by exact sx i 1) (by omega) (by first | decide | omega) ?_
  refine z_aload_n (i := 0) dL_law_980 rfl rfl ?_
  refine z_iload_n (i := 3) dL_law_981 rfl rfl ?_
  refine z_iconst (v := 2) dL_law_982 (by decide) ?_
  refine z_iadd dL_law_983 ?_
  refine z_sald (j := i + 2) dL_law_984 (by exact sx i 2) (by omega) (by first | decide | omega) ?_
  refine z_aload_n (i := 0) dL_law_985 rfl rfl ?_
  refine z_iload_n (i := 3) dL_law_986 rfl rfl ?_
  refine z_iconst (v := 3) dL_law_987 (by decide) ?_
  refine z_iadd dL_law_988 ?_
  refine z_sald (j := i + 3) dL_law_989 (by exact sx i 3) (by omega) (by first | decide | omega) ?_
  refine z_Vi (As := [_, _, _]) dL_law_990 (by rfl) v_X7_voice l_L_108 (by first | decide | assumption | omega) rfl rfl rfl (by omega) (by decide) (Nat.le_of_ble_eq_true rfl) ?_
  refine x_voice hX (by omega) ?_
  intro c1 hf1 hX1
  obtain ⟨n, t, m, hv, h3, ht, h4, hm, hkk, hz, hs⟩ := RX_ref hX hf1
  refine z_aload_n (i := 2) dL_law_993 rfl rfl ?_
  refine z_aload_n (i := 0) dL_law_994 rfl rfl ?_
  refine z_iload_n (i := 3) dL_law_995 rfl rfl ?_
  refine z_iconst (v := 1) dL_law_996 (by decide) ?_
  refine z_iadd dL_law_997 ?_
  refine z_sald (j := i + 1) dL_law_998 (by exact sx i 1) (by omega) (by first | decide | omega) ?_
  refine z_aload_n (i := 0) dL_law_999 rfl rfl ?_
  refine z_iload_n (i := 3) dL_law_1000 rfl rfl ?_
  refine z_iconst (v := 2) dL_law_1001 (by decide) ?_
  refine z_iadd dL_law_1002 ?_
  refine z_sald (j := i + 2) dL_law_1003 (by exact sx i 2) (by omega) (by first | decide | omega) ?_
  refine z_aload_n (i := 0) dL_law_1004 rfl rfl ?_
  refine z_iload_n (i := 3) dL_law_1005 rfl rfl ?_
  refine z_iconst (v := 3) dL_law_1006 (by decide) ?_
  refine z_iadd dL_law_1007 ?_
  refine z_sald (j := i + 3) dL_law_1008 (by exact sx i 3) (by omega) (by first | decide | omega) ?_
  refine z_Vi (As := [_, _, _]) dL_law_1009 (by rfl) v_X8_voice l_L_111 (by first | decide | assumption | omega) rfl rfl rfl (by omega) (by decide) (Nat.le_of_ble_eq_true rfl) ?_
  refine o8_voice (n := n) hv hkk (by omega) ?_
  intro r c2 hf2 he2
  have hq := law_eq (fun σ => o_voice σ _ _ _) hf1 hX1 hf2 he2
  refine z_icmp_eq 1343 dL_law_1012 (by decide) (fun h_1012 => ?_) (fun h_1012 => ?_)
  rotate_left
  · exact absurd hq.1 h_1012
  exact nxt c2 hq.2
theorem lw_body (hX : RX c (mst c)) (hi : i + 6 ≤ E.2.2.1) (hL : E.2.2.1 ≤ 3072) (hd : 120 ≤ d) (nxt : ∀ c2, RX c2 (mst c2) → zW l E ad RL cL_law 4 3 d Qf 1343 [some (.ref (ad 72)), some (.ref (ad 0)), some (.ref (ad 51)), some (.int (nI i))] [] c2) : zW l E ad RL cL_law 4 3 d Qf 1017 [some (.ref (ad 72)), some (.ref (ad 0)), some (.ref (ad 51)), some (.int (nI i))] [] c := by
  refine z_aload_n (i := 1) dL_law_1017 rfl rfl ?_
  refine z_aload_n (i := 0) dL_law_1018 rfl rfl ?_
  refine z_iload_n (i := 3) dL_law_1019 rfl rfl ?_
  refine z_iconst (v := 1) dL_law_1020 (by decide) ?_
  refine z_iadd dL_law_1021 ?_
  refine z_sald (j := i + 1) dL_law_1022 (by exact sx i 1) (by omega) (by first | decide | omega) ?_
  refine z_Vi (As := [_]) dL_law_1023 (by rfl) v_X7_body l_L_112 (by first | decide | assumption | omega) rfl rfl rfl (by omega) (by decide) (Nat.le_of_ble_eq_true rfl) ?_
  refine x_body hX (by omega) ?_
  intro c1 hf1 hX1
  obtain ⟨n, t, m, hv, h3, ht, h4, hm, hkk, hz, hs⟩ := RX_ref hX hf1
  refine z_aload_n (i := 2) dL_law_1026 rfl rfl ?_
  refine z_aload_n (i := 0) dL_law_1027 rfl rfl ?_
  refine z_iload_n (i := 3) dL_law_1028 rfl rfl ?_
  refine z_iconst (v := 1) dL_law_1029 (by decide) ?_
  refine z_iadd dL_law_1030 ?_
  refine z_sald (j := i + 1) dL_law_1031 (by exact sx i 1) (by omega) (by first | decide | omega) ?_
  refine z_Vi (As := [_]) dL_law_1032 (by rfl) v_X8_body l_L_115 (by first | decide | assumption | omega) rfl rfl rfl (by omega) (by decide) (Nat.le_of_ble_eq_true rfl) ?_
  refine o8_body hs (by omega) ?_
  intro r c2 hf2 he2
  have hq := law_eq (fun σ => o_body σ _) hf1 hX1 hf2 he2
  refine z_icmp_eq 1343 dL_law_1035 (by decide) (fun h_1035 => ?_) (fun h_1035 => ?_)
  rotate_left
  · exact absurd hq.1 h_1035
  exact nxt c2 hq.2
theorem lw_sheet (hX : RX c (mst c)) (hi : i + 6 ≤ E.2.2.1) (hL : E.2.2.1 ≤ 3072) (hd : 120 ≤ d) (nxt : ∀ c2, RX c2 (mst c2) → zW l E ad RL cL_law 4 3 d Qf 1343 [some (.ref (ad 72)), some (.ref (ad 0)), some (.ref (ad 51)), some (.int (nI i))] [] c2) : zW l E ad RL cL_law 4 3 d Qf 1040 [some (.ref (ad 72)), some (.ref (ad 0)), some (.ref (ad 51)), some (.int (nI i))] [] c := by
  refine z_aload_n (i := 1) dL_law_1040 rfl rfl ?_
  refine z_aload_n (i := 0) dL_law_1041 rfl rfl ?_
  refine z_iload_n (i := 3) dL_law_1042 rfl rfl ?_
  refine z_iconst (v := 1) dL_law_1043 (by decide) ?_
  refine z_iadd dL_law_1044 ?_
  refine z_sald (j := i + 1) dL_law_1045 (by exact sx i 1) (by omega) (by first | decide | omega) ?_
  refine z_aload_n (i := 0) dL_law_1046 rfl rfl ?_
  refine z_iload_n (i := 3) dL_law_1047 rfl rfl ?_
  refine z_iconst (v := 2) dL_law_1048 (by decide) ?_
  refine z_iadd dL_law_1049 ?_
  refine z_sald (j := i + 2) dL_law_1050 (by exact sx i 2) (by omega) (by first | decide | omega) ?_
  refine z_aload_n (i := 0) dL_law_1051 rfl rfl ?_
  refine z_iload_n (i := 3) dL_law_1052 rfl rfl ?_
  refine z_iconst (v := 3) dL_law_1053 (by decide) ?_
  refine z_iadd dL_law_1054 ?_
  refine z_sald (j := i + 3) dL_law_1055 (by exact sx i 3) (by omega) (by first | decide | omega) ?_
  refine z_Vi (As := [_, _, _]) dL_law_1056 (by rfl) v_X7_sheet l_L_116 (by first | decide | assumption | omega) rfl rfl rfl (by omega) (by decide) (Nat.le_of_ble_eq_true rfl) ?_
  refine x_sheet hX (by omega) ?_
  intro c1 hf1 hX1
  obtain ⟨n, t, m, hv, h3, ht, h4, hm, hkk, hz, hs⟩ := RX_ref hX hf1
  refine z_aload_n (i := 2) dL_law_1059 rfl rfl ?_
  refine z_aload_n (i := 0) dL_law_1060 rfl rfl ?_
  refine z_iload_n (i := 3) dL_law_1061 rfl rfl ?_
  refine z_iconst (v := 1) dL_law_1062 (by decide) ?_
  refine z_iadd dL_law_1063 ?_
  refine z_sald (j := i + 1) dL_law_1064 (by exact sx i 1) (by omega) (by first | decide | omega) ?_
  refine z_aload_n (i := 0) dL_law_1065 rfl rfl ?_
  refine z_iload_n (i := 3) dL_law_1066 rfl rfl ?_
  refine z_iconst (v := 2) dL_law_1067 (by decide) ?_
  refine z_iadd dL_law_1068 ?_
  refine z_sald (j := i + 2) dL_law_1069 (by exact sx i 2) (by omega) (by first | decide | omega) ?_
  refine z_aload_n (i := 0) dL_law_1070 rfl rfl ?_
  refine z_iload_n (i := 3) dL_law_1071 rfl rfl ?_
  refine z_iconst (v := 3) dL_law_1072 (by decide) ?_
  refine z_iadd dL_law_1073 ?_
  refine z_sald (j := i + 3) dL_law_1074 (by exact sx i 3) (by omega) (by first | decide | omega) ?_
  refine z_Vi (As := [_, _, _]) dL_law_1075 (by rfl) v_X8_sheet l_L_119 (by first | decide | assumption | omega) rfl rfl rfl (by omega) (by decide) (Nat.le_of_ble_eq_true rfl) ?_
  refine o8_sheet  (by omega) ?_
  intro r c2 hf2 he2
  have hq := law_eq (fun σ => o_sheet σ _ _ _) hf1 hX1 hf2 he2
  refine z_icmp_eq 1343 dL_law_1078 (by decide) (fun h_1078 => ?_) (fun h_1078 => ?_)
  rotate_left
  · exact absurd hq.1 h_1078
  exact nxt c2 hq.2
theorem lw_put (hX : RX c (mst c)) (hi : i + 6 ≤ E.2.2.1) (hL : E.2.2.1 ≤ 3072) (hd : 120 ≤ d) (nxt : ∀ c2, RX c2 (mst c2) → zW l E ad RL cL_law 4 3 d Qf 1343 [some (.ref (ad 72)), some (.ref (ad 0)), some (.ref (ad 51)), some (.int (nI i))] [] c2) : zW l E ad RL cL_law 4 3 d Qf 1083 [some (.ref (ad 72)), some (.ref (ad 0)), some (.ref (ad 51)), some (.int (nI i))] [] c := by
  refine z_aload_n (i := 1) dL_law_1083 rfl rfl ?_
  refine z_aload_n (i := 0) dL_law_1084 rfl rfl ?_
  refine z_iload_n (i := 3) dL_law_1085 rfl rfl ?_
  refine z_iconst (v := 1) dL_law_1086 (by decide) ?_
  refine z_iadd dL_law_1087 ?_
  refine z_sald (j := i + 1) dL_law_1088 (by exact sx i 1) (by omega) (by first | decide | omega) ?_
  refine z_aload_n (i := 0) dL_law_1089 rfl rfl ?_
  refine z_iload_n (i := 3) dL_law_1090 rfl rfl ?_
  refine z_iconst (v := 2) dL_law_1091 (by decide) ?_
  refine z_iadd dL_law_1092 ?_
  refine z_sald (j := i + 2) dL_law_1093 (by exact sx i 2) (by omega) (by first | decide | omega) ?_
  refine z_aload_n (i := 0) dL_law_1094 rfl rfl ?_
  refine z_iload_n (i := 3) dL_law_1095 rfl rfl ?_
  refine z_iconst (v := 3) dL_law_1096 (by decide) ?_
  refine z_iadd dL_law_1097 ?_
  refine z_sald (j := i + 3) dL_law_1098 (by exact sx i 3) (by omega) (by first | decide | omega) ?_
  refine z_Vi (As := [_, _, _]) dL_law_1099 (by rfl) v_X7_put l_L_120 (by first | decide | assumption | omega) rfl rfl rfl (by omega) (by decide) (Nat.le_of_ble_eq_true rfl) ?_
  refine x_put hX (by omega) ?_
  intro c1 hf1 hX1
  obtain ⟨n, t, m, hv, h3, ht, h4, hm, hkk, hz, hs⟩ := RX_ref hX hf1
  refine z_aload_n (i := 2) dL_law_1102 rfl rfl ?_
  refine z_aload_n (i := 0) dL_law_1103 rfl rfl ?_
  refine z_iload_n (i := 3) dL_law_1104 rfl rfl ?_
  refine z_iconst (v := 1) dL_law_1105 (by decide) ?_
  refine z_iadd dL_law_1106 ?_
  refine z_sald (j := i + 1) dL_law_1107 (by exact sx i 1) (by omega) (by first | decide | omega) ?_
  refine z_aload_n (i := 0) dL_law_1108 rfl rfl ?_
  refine z_iload_n (i := 3) dL_law_1109 rfl rfl ?_
  refine z_iconst (v := 2) dL_law_1110 (by decide) ?_
  refine z_iadd dL_law_1111 ?_
  refine z_sald (j := i + 2) dL_law_1112 (by exact sx i 2) (by omega) (by first | decide | omega) ?_
  refine z_aload_n (i := 0) dL_law_1113 rfl rfl ?_
  refine z_iload_n (i := 3) dL_law_1114 rfl rfl ?_
  refine z_iconst (v := 3) dL_law_1115 (by decide) ?_
  refine z_iadd dL_law_1116 ?_
  refine z_sald (j := i + 3) dL_law_1117 (by exact sx i 3) (by omega) (by first | decide | omega) ?_
  refine z_Vi (As := [_, _, _]) dL_law_1118 (by rfl) v_X8_put l_L_123 (by first | decide | assumption | omega) rfl rfl rfl (by omega) (by decide) (Nat.le_of_ble_eq_true rfl) ?_
  refine o8_put hz (by omega) ?_
  intro r c2 hf2 he2
  have hq := law_eq (fun σ => o_put σ _ _ _) hf1 hX1 hf2 he2
  refine z_icmp_eq 1343 dL_law_1121 (by decide) (fun h_1121 => ?_) (fun h_1121 => ?_)
  rotate_left
  · exact absurd hq.1 h_1121
  exact nxt c2 hq.2
theorem lw_move (hX : RX c (mst c)) (hi : i + 6 ≤ E.2.2.1) (hL : E.2.2.1 ≤ 3072) (hd : 120 ≤ d) (nxt : ∀ c2, RX c2 (mst c2) → zW l E ad RL cL_law 4 3 d Qf 1343 [some (.ref (ad 72)), some (.ref (ad 0)), some (.ref (ad 51)), some (.int (nI i))] [] c2) : zW l E ad RL cL_law 4 3 d Qf 1126 [some (.ref (ad 72)), some (.ref (ad 0)), some (.ref (ad 51)), some (.int (nI i))] [] c := by
  refine z_aload_n (i := 1) dL_law_1126 rfl rfl ?_
  refine z_aload_n (i := 0) dL_law_1127 rfl rfl ?_
  refine z_iload_n (i := 3) dL_law_1128 rfl rfl ?_
  refine z_iconst (v := 1) dL_law_1129 (by decide) ?_
  refine z_iadd dL_law_1130 ?_
  refine z_sald (j := i + 1) dL_law_1131 (by exact sx i 1) (by omega) (by first | decide | omega) ?_
  refine z_aload_n (i := 0) dL_law_1132 rfl rfl ?_
  refine z_iload_n (i := 3) dL_law_1133 rfl rfl ?_
  refine z_iconst (v := 2) dL_law_1134 (by decide) ?_
  refine z_iadd dL_law_1135 ?_
  refine z_sald (j := i + 2) dL_law_1136 (by exact sx i 2) (by omega) (by first | decide | omega) ?_
  refine z_aload_n (i := 0) dL_law_1137 rfl rfl ?_
  refine z_iload_n (i := 3) dL_law_1138 rfl rfl ?_
  refine z_iconst (v := 3) dL_law_1139 (by decide) ?_
  refine z_iadd dL_law_1140 ?_
  refine z_sald (j := i + 3) dL_law_1141 (by exact sx i 3) (by omega) (by first | decide | omega) ?_
  refine z_aload_n (i := 0) dL_law_1142 rfl rfl ?_
  refine z_iload_n (i := 3) dL_law_1143 rfl rfl ?_
  refine z_iconst (v := 4) dL_law_1144 (by decide) ?_
  refine z_iadd dL_law_1145 ?_
  refine z_sald (j := i + 4) dL_law_1146 (by exact sx i 4) (by omega) (by first | decide | omega) ?_
  refine z_aload_n (i := 0) dL_law_1147 rfl rfl ?_
  refine z_iload_n (i := 3) dL_law_1148 rfl rfl ?_
  refine z_iconst (v := 5) dL_law_1149 (by decide) ?_
  refine z_iadd dL_law_1150 ?_
  refine z_sald (j := i + 5) dL_law_1151 (by exact sx i 5) (by omega) (by first | decide | omega) ?_
  refine z_Vi (As := [_, _, _, _, _]) dL_law_1152 (by rfl) v_X7_move l_L_124 (by first | decide | assumption | omega) rfl rfl rfl (by omega) (by decide) (Nat.le_of_ble_eq_true rfl) ?_
  refine x_move hX (by omega) ?_
  intro c1 hf1 hX1
  obtain ⟨n, t, m, hv, h3, ht, h4, hm, hkk, hz, hs⟩ := RX_ref hX hf1
  refine z_aload_n (i := 2) dL_law_1155 rfl rfl ?_
  refine z_aload_n (i := 0) dL_law_1156 rfl rfl ?_
  refine z_iload_n (i := 3) dL_law_1157 rfl rfl ?_
  refine z_iconst (v := 1) dL_law_1158 (by decide) ?_
  refine z_iadd dL_law_1159 ?_
  refine z_sald (j := i + 1) dL_law_1160 (by exact sx i 1) (by omega) (by first | decide | omega) ?_
  refine z_aload_n (i := 0) dL_law_1161 rfl rfl ?_
  refine z_iload_n (i := 3) dL_law_1162 rfl rfl ?_
  refine z_iconst (v := 2) dL_law_1163 (by decide) ?_
  refine z_iadd dL_law_1164 ?_
  refine z_sald (j := i + 2) dL_law_1165 (by exact sx i 2) (by omega) (by first | decide | omega) ?_
  refine z_aload_n (i := 0) dL_law_1166 rfl rfl ?_
  refine z_iload_n (i := 3) dL_law_1167 rfl rfl ?_
  refine z_iconst (v := 3) dL_law_1168 (by decide) ?_
  refine z_iadd dL_law_1169 ?_
  refine z_sald (j := i + 3) dL_law_1170 (by exact sx i 3) (by omega) (by first | decide | omega) ?_
  refine z_aload_n (i := 0) dL_law_1171 rfl rfl ?_
  refine z_iload_n (i := 3) dL_law_1172 rfl rfl ?_
  refine z_iconst (v := 4) dL_law_1173 (by decide) ?_
  refine z_iadd dL_law_1174 ?_
  refine z_sald (j := i + 4) dL_law_1175 (by exact sx i 4) (by omega) (by first | decide | omega) ?_
  refine z_aload_n (i := 0) dL_law_1176 rfl rfl ?_
  refine z_iload_n (i := 3) dL_law_1177 rfl rfl ?_
  refine z_iconst (v := 5) dL_law_1178 (by decide) ?_
  refine z_iadd dL_law_1179 ?_
  refine z_sald (j := i + 5) dL_law_1180 (by exact sx i 5) (by omega) (by first | decide | omega) ?_
  refine z_Vi (As := [_, _, _, _, _]) dL_law_1181 (by rfl) v_X8_move l_L_128 (by first | decide | assumption | omega) rfl rfl rfl (by omega) (by decide) (Nat.le_of_ble_eq_true rfl) ?_
  refine o8_move hz (by omega) ?_
  intro r c2 hf2 he2
  have hq := law_eq (fun σ => o_move σ _ _ _ _ _) hf1 hX1 hf2 he2
  refine z_icmp_eq 1343 dL_law_1184 (by decide) (fun h_1184 => ?_) (fun h_1184 => ?_)
  rotate_left
  · exact absurd hq.1 h_1184
  exact nxt c2 hq.2
theorem lw_sures (hX : RX c (mst c)) (hi : i + 6 ≤ E.2.2.1) (hL : E.2.2.1 ≤ 3072) (hd : 120 ≤ d) (nxt : ∀ c2, RX c2 (mst c2) → zW l E ad RL cL_law 4 3 d Qf 1343 [some (.ref (ad 72)), some (.ref (ad 0)), some (.ref (ad 51)), some (.int (nI i))] [] c2) : zW l E ad RL cL_law 4 3 d Qf 1189 [some (.ref (ad 72)), some (.ref (ad 0)), some (.ref (ad 51)), some (.int (nI i))] [] c := by
  refine z_aload_n (i := 1) dL_law_1189 rfl rfl ?_
  refine z_aload_n (i := 0) dL_law_1190 rfl rfl ?_
  refine z_iload_n (i := 3) dL_law_1191 rfl rfl ?_
  refine z_iconst (v := 1) dL_law_1192 (by decide) ?_
  refine z_iadd dL_law_1193 ?_
  refine z_sald (j := i + 1) dL_law_1194 (by exact sx i 1) (by omega) (by first | decide | omega) ?_
  refine z_Vi (As := [_]) dL_law_1195 (by rfl) v_X7_sures l_L_129 (by first | decide | assumption | omega) rfl rfl rfl (by omega) (by decide) (Nat.le_of_ble_eq_true rfl) ?_
  refine x_sures hX (by omega) ?_
  intro c1 hf1 hX1
  obtain ⟨n, t, m, hv, h3, ht, h4, hm, hkk, hz, hs⟩ := RX_ref hX hf1
  refine z_aload_n (i := 2) dL_law_1198 rfl rfl ?_
  refine z_aload_n (i := 0) dL_law_1199 rfl rfl ?_
  refine z_iload_n (i := 3) dL_law_1200 rfl rfl ?_
  refine z_iconst (v := 1) dL_law_1201 (by decide) ?_
  refine z_iadd dL_law_1202 ?_
  refine z_sald (j := i + 1) dL_law_1203 (by exact sx i 1) (by omega) (by first | decide | omega) ?_
  refine z_Vi (As := [_]) dL_law_1204 (by rfl) v_X8_sures l_L_132 (by first | decide | assumption | omega) rfl rfl rfl (by omega) (by decide) (Nat.le_of_ble_eq_true rfl) ?_
  refine o8_sures (n := n) hv hz (by omega) ?_
  intro r c2 hf2 he2
  have hq := law_eq (fun σ => o_sures σ _) hf1 hX1 hf2 he2
  refine z_icmp_eq 1343 dL_law_1207 (by decide) (fun h_1207 => ?_) (fun h_1207 => ?_)
  rotate_left
  · exact absurd hq.1 h_1207
  exact nxt c2 hq.2
theorem lw_judge (hX : RX c (mst c)) (hi : i + 6 ≤ E.2.2.1) (hL : E.2.2.1 ≤ 3072) (hd : 120 ≤ d) (nxt : ∀ c2, RX c2 (mst c2) → zW l E ad RL cL_law 4 3 d Qf 1343 [some (.ref (ad 72)), some (.ref (ad 0)), some (.ref (ad 51)), some (.int (nI i))] [] c2) : zW l E ad RL cL_law 4 3 d Qf 1212 [some (.ref (ad 72)), some (.ref (ad 0)), some (.ref (ad 51)), some (.int (nI i))] [] c := by
  refine z_aload_n (i := 1) dL_law_1212 rfl rfl ?_
  refine z_aload_n (i := 0) dL_law_1213 rfl rfl ?_
  refine z_iload_n (i := 3) dL_law_1214 rfl rfl ?_
  refine z_iconst (v := 1) dL_law_1215 (by decide) ?_
  refine z_iadd dL_law_1216 ?_
  refine z_sald (j := i + 1) dL_law_1217 (by exact sx i 1) (by omega) (by first | decide | omega) ?_
  refine z_Vi (As := [_]) dL_law_1218 (by rfl) v_X7_judge l_L_133 (by first | decide | assumption | omega) rfl rfl rfl (by omega) (by decide) (Nat.le_of_ble_eq_true rfl) ?_
  refine x_judge hX (by omega) ?_
  intro c1 hf1 hX1
  obtain ⟨n, t, m, hv, h3, ht, h4, hm, hkk, hz, hs⟩ := RX_ref hX hf1
  refine z_aload_n (i := 2) dL_law_1221 rfl rfl ?_
  refine z_aload_n (i := 0) dL_law_1222 rfl rfl ?_
  refine z_iload_n (i := 3) dL_law_1223 rfl rfl ?_
  refine z_iconst (v := 1) dL_law_1224 (by decide) ?_
  refine z_iadd dL_law_1225 ?_
  refine z_sald (j := i + 1) dL_law_1226 (by exact sx i 1) (by omega) (by first | decide | omega) ?_
  refine z_Vi (As := [_]) dL_law_1227 (by rfl) v_X8_judge l_L_136 (by first | decide | assumption | omega) rfl rfl rfl (by omega) (by decide) (Nat.le_of_ble_eq_true rfl) ?_
  refine o8_judge (n := n) hv hz (by omega) ?_
  intro r c2 hf2 he2
  have hq := law_eq (fun σ => o_judge σ _) hf1 hX1 hf2 he2
  refine z_icmp_eq 1343 dL_law_1230 (by decide) (fun h_1230 => ?_) (fun h_1230 => ?_)
  rotate_left
  · exact absurd hq.1 h_1230
  exact nxt c2 hq.2
theorem lw_image (hX : RX c (mst c)) (hi : i + 6 ≤ E.2.2.1) (hL : E.2.2.1 ≤ 3072) (hd : 120 ≤ d) (nxt : ∀ c2, RX c2 (mst c2) → zW l E ad RL cL_law 4 3 d Qf 1343 [some (.ref (ad 72)), some (.ref (ad 0)), some (.ref (ad 51)), some (.int (nI i))] [] c2) : zW l E ad RL cL_law 4 3 d Qf 1235 [some (.ref (ad 72)), some (.ref (ad 0)), some (.ref (ad 51)), some (.int (nI i))] [] c := by
  refine z_aload_n (i := 1) dL_law_1235 rfl rfl ?_
  refine z_Vi (As := []) dL_law_1236 (by rfl) v_X7_image l_L_137 (by first | decide | assumption | omega) rfl rfl rfl (by omega) (by decide) (Nat.le_of_ble_eq_true rfl) ?_
  refine x_image hX (by omega) ?_
  intro c1 hf1 hX1
  obtain ⟨n, t, m, hv, h3, ht, h4, hm, hkk, hz, hs⟩ := RX_ref hX hf1
  refine z_aload_n (i := 2) dL_law_1239 rfl rfl ?_
  refine z_Vi (As := []) dL_law_1240 (by rfl) v_X8_image l_L_141 (by first | decide | assumption | omega) rfl rfl rfl (by omega) (by decide) (Nat.le_of_ble_eq_true rfl) ?_
  refine o8_image  (by omega) ?_
  intro r c2 hf2 he2
  have hq := law_eq (fun σ => o_image σ) hf1 hX1 hf2 he2
  refine z_icmp_eq 1343 dL_law_1243 (by decide) (fun h_1243 => ?_) (fun h_1243 => ?_)
  rotate_left
  · exact absurd hq.1 h_1243
  exact nxt c2 hq.2
theorem lw_restore (hX : RX c (mst c)) (hi : i + 6 ≤ E.2.2.1) (hL : E.2.2.1 ≤ 3072) (hd : 120 ≤ d) (nxt : ∀ c2, RX c2 (mst c2) → zW l E ad RL cL_law 4 3 d Qf 1343 [some (.ref (ad 72)), some (.ref (ad 0)), some (.ref (ad 51)), some (.int (nI i))] [] c2) : zW l E ad RL cL_law 4 3 d Qf 1248 [some (.ref (ad 72)), some (.ref (ad 0)), some (.ref (ad 51)), some (.int (nI i))] [] c := by
  refine z_aload_n (i := 1) dL_law_1248 rfl rfl ?_
  refine z_Vi (As := []) dL_law_1249 (by rfl) v_X7_restore l_L_142 (by first | decide | assumption | omega) rfl rfl rfl (by omega) (by decide) (Nat.le_of_ble_eq_true rfl) ?_
  refine x_restore hX (by omega) ?_
  intro c1 hf1 hX1
  obtain ⟨n, t, m, hv, h3, ht, h4, hm, hkk, hz, hs⟩ := RX_ref hX hf1
  refine z_aload_n (i := 2) dL_law_1252 rfl rfl ?_
  refine z_Vi (As := []) dL_law_1253 (by rfl) v_X8_restore l_L_145 (by first | decide | assumption | omega) rfl rfl rfl (by omega) (by decide) (Nat.le_of_ble_eq_true rfl) ?_
  refine o8_restore  (by omega) ?_
  intro r c2 hf2 he2
  have hq := law_eq (fun σ => o_restore σ) hf1 hX1 hf2 he2
  refine z_icmp_eq 1343 dL_law_1256 (by decide) (fun h_1256 => ?_) (fun h_1256 => ?_)
  rotate_left
  · exact absurd hq.1 h_1256
  exact nxt c2 hq.2
theorem lw_tell (hX : RX c (mst c)) (hi : i + 6 ≤ E.2.2.1) (hL : E.2.2.1 ≤ 3072) (hd : 120 ≤ d) (nxt : ∀ c2, RX c2 (mst c2) → zW l E ad RL cL_law 4 3 d Qf 1343 [some (.ref (ad 72)), some (.ref (ad 0)), some (.ref (ad 51)), some (.int (nI i))] [] c2) : zW l E ad RL cL_law 4 3 d Qf 1261 [some (.ref (ad 72)), some (.ref (ad 0)), some (.ref (ad 51)), some (.int (nI i))] [] c := by
  refine z_aload_n (i := 1) dL_law_1261 rfl rfl ?_
  refine z_aload_n (i := 0) dL_law_1262 rfl rfl ?_
  refine z_iload_n (i := 3) dL_law_1263 rfl rfl ?_
  refine z_iconst (v := 1) dL_law_1264 (by decide) ?_
  refine z_iadd dL_law_1265 ?_
  refine z_sald (j := i + 1) dL_law_1266 (by exact sx i 1) (by omega) (by first | decide | omega) ?_
  refine z_Vi (As := [_]) dL_law_1267 (by rfl) v_X7_tell l_L_146 (by first | decide | assumption | omega) rfl rfl rfl (by omega) (by decide) (Nat.le_of_ble_eq_true rfl) ?_
  refine x_tell hX (by omega) ?_
  intro c1 hf1 hX1
  obtain ⟨n, t, m, hv, h3, ht, h4, hm, hkk, hz, hs⟩ := RX_ref hX hf1
  refine z_aload_n (i := 2) dL_law_1270 rfl rfl ?_
  refine z_aload_n (i := 0) dL_law_1271 rfl rfl ?_
  refine z_iload_n (i := 3) dL_law_1272 rfl rfl ?_
  refine z_iconst (v := 1) dL_law_1273 (by decide) ?_
  refine z_iadd dL_law_1274 ?_
  refine z_sald (j := i + 1) dL_law_1275 (by exact sx i 1) (by omega) (by first | decide | omega) ?_
  refine z_Vi (As := [_]) dL_law_1276 (by rfl) v_X8_tell l_L_149 (by first | decide | assumption | omega) rfl rfl rfl (by omega) (by decide) (Nat.le_of_ble_eq_true rfl) ?_
  refine o8_tell (m := m) h4 hm (by omega) ?_
  intro r c2 hf2 he2
  have hq := law_eq (fun σ => o_tell σ _) hf1 hX1 hf2 he2
  refine z_icmp_eq 1343 dL_law_1279 (by decide) (fun h_1279 => ?_) (fun h_1279 => ?_)
  rotate_left
  · exact absurd hq.1 h_1279
  exact nxt c2 hq.2
theorem lw_check (hX : RX c (mst c)) (hi : i + 6 ≤ E.2.2.1) (hL : E.2.2.1 ≤ 3072) (hd : 120 ≤ d) (nxt : ∀ c2, RX c2 (mst c2) → zW l E ad RL cL_law 4 3 d Qf 1343 [some (.ref (ad 72)), some (.ref (ad 0)), some (.ref (ad 51)), some (.int (nI i))] [] c2) : zW l E ad RL cL_law 4 3 d Qf 1284 [some (.ref (ad 72)), some (.ref (ad 0)), some (.ref (ad 51)), some (.int (nI i))] [] c := by
  refine z_aload_n (i := 1) dL_law_1284 rfl rfl ?_
  refine z_Vi (As := []) dL_law_1285 (by rfl) v_X7_check l_L_150 (by first | decide | assumption | omega) rfl rfl rfl (by omega) (by decide) (Nat.le_of_ble_eq_true rfl) ?_
  refine x_check hX (by omega) ?_
  intro c1 hf1 hX1
  obtain ⟨n, t, m, hv, h3, ht, h4, hm, hkk, hz, hs⟩ := RX_ref hX hf1
  refine z_aload_n (i := 2) dL_law_1288 rfl rfl ?_
  refine z_Vi (As := []) dL_law_1289 (by rfl) v_X8_check l_L_153 (by first | decide | assumption | omega) rfl rfl rfl (by omega) (by decide) (Nat.le_of_ble_eq_true rfl) ?_
  refine o8_check (n := n) (m := m) hv h4 hm (by omega) ?_
  intro r c2 hf2 he2
  have hq := law_eq (fun σ => o_check σ) hf1 hX1 hf2 he2
  refine z_icmp_eq 1343 dL_law_1292 (by decide) (fun h_1292 => ?_) (fun h_1292 => ?_)
  rotate_left
  · exact absurd hq.1 h_1292
  exact nxt c2 hq.2
theorem lw_count (hX : RX c (mst c)) (hi : i + 6 ≤ E.2.2.1) (hL : E.2.2.1 ≤ 3072) (hd : 120 ≤ d) (nxt : ∀ c2, RX c2 (mst c2) → zW l E ad RL cL_law 4 3 d Qf 1343 [some (.ref (ad 72)), some (.ref (ad 0)), some (.ref (ad 51)), some (.int (nI i))] [] c2) : zW l E ad RL cL_law 4 3 d Qf 1297 [some (.ref (ad 72)), some (.ref (ad 0)), some (.ref (ad 51)), some (.int (nI i))] [] c := by
  refine z_aload_n (i := 1) dL_law_1297 rfl rfl ?_
  refine z_aload_n (i := 0) dL_law_1298 rfl rfl ?_
  refine z_iload_n (i := 3) dL_law_1299 rfl rfl ?_
  refine z_iconst (v := 1) dL_law_1300 (by decide) ?_
  refine z_iadd dL_law_1301 ?_
  refine z_sald (j := i + 1) dL_law_1302 (by exact sx i 1) (by omega) (by first | decide | omega) ?_
  refine z_Vi (As := [_]) dL_law_1303 (by rfl) v_X7_count l_L_154 (by first | decide | assumption | omega) rfl rfl rfl (by omega) (by decide) (Nat.le_of_ble_eq_true rfl) ?_
  refine x_count hX (by omega) ?_
  intro c1 hf1 hX1
  obtain ⟨n, t, m, hv, h3, ht, h4, hm, hkk, hz, hs⟩ := RX_ref hX hf1
  refine z_aload_n (i := 2) dL_law_1306 rfl rfl ?_
  refine z_aload_n (i := 0) dL_law_1307 rfl rfl ?_
  refine z_iload_n (i := 3) dL_law_1308 rfl rfl ?_
  refine z_iconst (v := 1) dL_law_1309 (by decide) ?_
  refine z_iadd dL_law_1310 ?_
  refine z_sald (j := i + 1) dL_law_1311 (by exact sx i 1) (by omega) (by first | decide | omega) ?_
  refine z_Vi (As := [_]) dL_law_1312 (by rfl) v_X8_count l_L_157 (by first | decide | assumption | omega) rfl rfl rfl (by omega) (by decide) (Nat.le_of_ble_eq_true rfl) ?_
  refine o8_count (n := n) hv (by omega) ?_
  intro r c2 hf2 he2
  have hq := law_eq (fun σ => o_count σ _) hf1 hX1 hf2 he2
  refine z_icmp_eq 1343 dL_law_1315 (by decide) (fun h_1315 => ?_) (fun h_1315 => ?_)
  rotate_left
  · exact absurd hq.1 h_1315
  exact nxt c2 hq.2
theorem lw_told (hX : RX c (mst c)) (hi : i + 6 ≤ E.2.2.1) (hL : E.2.2.1 ≤ 3072) (hd : 120 ≤ d) (nxt : ∀ c2, RX c2 (mst c2) → zW l E ad RL cL_law 4 3 d Qf 1343 [some (.ref (ad 72)), some (.ref (ad 0)), some (.ref (ad 51)), some (.int (nI i))] [] c2) : zW l E ad RL cL_law 4 3 d Qf 1320 [some (.ref (ad 72)), some (.ref (ad 0)), some (.ref (ad 51)), some (.int (nI i))] [] c := by
  refine z_aload_n (i := 1) dL_law_1320 rfl rfl ?_
  refine z_aload_n (i := 0) dL_law_1321 rfl rfl ?_
  refine z_iload_n (i := 3) dL_law_1322 rfl rfl ?_
  refine z_iconst (v := 1) dL_law_1323 (by decide) ?_
  refine z_iadd dL_law_1324 ?_
  refine z_sald (j := i + 1) dL_law_1325 (by exact sx i 1) (by omega) (by first | decide | omega) ?_
  refine z_Vi (As := [_]) dL_law_1326 (by rfl) v_X7_told l_L_158 (by first | decide | assumption | omega) rfl rfl rfl (by omega) (by decide) (Nat.le_of_ble_eq_true rfl) ?_
  refine x_told hX (by omega) ?_
  intro c1 hf1 hX1
  obtain ⟨n, t, m, hv, h3, ht, h4, hm, hkk, hz, hs⟩ := RX_ref hX hf1
  refine z_aload_n (i := 2) dL_law_1329 rfl rfl ?_
  refine z_aload_n (i := 0) dL_law_1330 rfl rfl ?_
  refine z_iload_n (i := 3) dL_law_1331 rfl rfl ?_
  refine z_iconst (v := 1) dL_law_1332 (by decide) ?_
  refine z_iadd dL_law_1333 ?_
  refine z_sald (j := i + 1) dL_law_1334 (by exact sx i 1) (by omega) (by first | decide | omega) ?_
  refine z_Vi (As := [_]) dL_law_1335 (by rfl) v_X8_told l_L_161 (by first | decide | assumption | omega) rfl rfl rfl (by omega) (by decide) (Nat.le_of_ble_eq_true rfl) ?_
  refine o8_told  (by omega) ?_
  intro r c2 hf2 he2
  have hq := law_eq (fun σ => o_told σ _) hf1 hX1 hf2 he2
  refine z_icmp_eq 1343 dL_law_1338 (by decide) (fun h_1338 => ?_) (fun h_1338 => ?_)
  rotate_left
  · exact absurd hq.1 h_1338
  exact nxt c2 hq.2
end LW
