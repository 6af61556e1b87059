/-- the script's number at a place -/
def sv (xs : Nat → Int32) (i : Int) : Int := (xs i.toNat).toInt
theorem sR (xs : Nat → Int32) (i : Int) : inR (sv xs i) := ⟨by have := (xs i.toNat).le_toInt; unfold sv; omega, by have := (xs i.toNat).toInt_lt; unfold sv; omega⟩
def SC (X : Cx) (V : Wd) (b L : Nat) (xs : Nat → Int32) : Prop :=
  match X with
  | (_, _, _, _, s, _, _, _, _, _, _, _, _, _) => va_X b L xs s s.heap ∧ b < s.heap.size ∧ ¬ fr V b
theorem ME.e {τ ρ : St} (h : τ = ρ) : ME τ ρ := by
  rw [h]
  exact ME.rf ρ
section LROWS
variable {X : Cx} {V : Wd} {σ : St} {pc n F Lo b L0 : Nat} {xs : Nat → Int32} {st : List Value} {L : List (Option Value)} {cc : ByteArray} {own : String}
theorem aw_aload_b {i : Fin 4} {x : Nat} (G : Gd X V cc own n F Lo) (hd : decode cc pc = .ok (.aload_n i, 1)) (hL : L[(i : Nat)]? = some (some (.ref x))) (k : AW X V σ (pc + 1) (.ref x :: st) L) : AW X V σ pc st L := by
  obtain ⟨p, l, e, R, s, m, args, below, meth, c, nL, kc, ks, Q⟩ := X
  obtain ⟨hx, hb, hnL, hml, hown, hts, hK, hD, hb0, hZ, hT, hF, hLo, hkc, hks, hNW⟩ := G
  intro H locs ls hP hS hl
  refine lv_aload_n hx hb hd rfl (lvl_get hl hL) ?_
  exact k H locs ls hP hS hl
theorem aw_slen (G : Gd X V cc own n F Lo) (hX : SC X V b L0 xs) (hd : decode cc pc = .ok (.arraylength, 1)) (k : AW X V σ (pc + 1) (iv (L0 : Int) :: st) L) : AW X V σ pc (.ref b :: st) L := by
  obtain ⟨p, l, e, R, s, m, args, below, meth, c, nL, kc, ks, Q⟩ := X
  obtain ⟨hx, hb, hnL, hml, hown, hts, hK, hD, hb0, hZ, hT, hF, hLo, hkc, hks, hNW⟩ := G
  intro H locs ls hP hS hl
  refine va_slen hx hb hX.1 hX.2.1 hX.2.2 hS hd ?_
  rw [show Int32.ofNat L0 = Int32.ofInt (L0 : Int) from (Int32.ofInt_eq_ofNat (n := L0)).symm]
  exact k H locs ls hP hS hl
theorem aw_sld {i : Int} (G : Gd X V cc own n F Lo) (hX : SC X V b L0 xs) (hd : decode cc pc = .ok (.iaload, 1)) (hL : L0 < 2147483648) (hi : 0 ≤ i ∧ i < L0) (k : AW X V σ (pc + 1) (iv (sv xs i) :: st) L) : AW X V σ pc (iv i :: .ref b :: st) L := by
  obtain ⟨p, l, e, R, s, m, args, below, meth, c, nL, kc, ks, Q⟩ := X
  obtain ⟨hx, hb, hnL, hml, hown, hts, hK, hD, hb0, hZ, hT, hF, hLo, hkc, hks, hNW⟩ := G
  intro H locs ls hP hS hl
  refine va_sld hx hb hX.1 hX.2.1 hX.2.2 hS (n_in hi hL) hd ?_
  rw [n_clamp ⟨by omega, by omega⟩, show xs i.toNat = Int32.ofInt (sv xs i) from (Int32.ofInt_toInt _).symm]
  exact k H locs ls hP hS hl
theorem aw_same {x y off : Int} {tgt : Nat} (G : Gd X V cc own n F Lo) (hd : decode cc pc = .ok (.if_icmp .eq off, 3)) (ht : (pc : Int) + off = (tgt : Int)) (h : x = y) (k : AW X V σ tgt st L) : AW X V σ pc (iv y :: iv x :: st) L := by
  obtain ⟨p, l, e, R, s, m, args, below, meth, c, nL, kc, ks, Q⟩ := X
  obtain ⟨hx, hb, hnL, hml, hown, hts, hK, hD, hb0, hZ, hT, hF, hLo, hkc, hks, hNW⟩ := G
  intro H locs ls hP hS hl
  exact lv_icmp_eq hx hb hd ht (fun _ => k H locs ls hP hS hl) (fun q => absurd (by rw [h]) q)
theorem aw_lsame {x y : Int} (G : Gd X V cc own n F Lo) (hd : decode cc pc = .ok (.lcmp, 1)) (h : x = y) (k : AW X V σ (pc + 1) (iv 0 :: st) L) : AW X V σ pc (jv y :: jv x :: st) L := by
  obtain ⟨p, l, e, R, s, m, args, below, meth, c, nL, kc, ks, Q⟩ := X
  obtain ⟨hx, hb, hnL, hml, hown, hts, hK, hD, hb0, hZ, hT, hF, hLo, hkc, hks, hNW⟩ := G
  intro H locs ls hP hS hl
  refine W.lcmp hx hb hd ?_
  have e1 : lg_cmp (Int64.ofInt x) (Int64.ofInt y) = Int32.ofInt 0 := by
    subst h
    unfold lg_cmp
    simp
  rw [e1]
  exact k H locs ls hP hS hl
end LROWS
set_option maxHeartbeats 8000000 in
theorem law_loop {X : Cx} {V : Wd} {b L0 : Nat} {xs : Nat → Int32} (G : Gd X V cL_law RL 4 2048 84000) (hX : SC X V b L0 xs) (hL : L0 ≤ 2560) (hend : ∀ (σ : St) (L : List (Option Value)), AW X V σ 1225 [] L) : ∀ (n0 : Nat) (i : Int) (σ : St), (0 ≤ i ∧ i ≤ L0) → ((L0 : Int) < i + n0) → OK σ → RX σ σ → AW X V σ 18 [] [some (.ref b), some (rv V 0), some (rv V 75), some (iv i)] := by
  intro n0
  induction n0 with
  | zero =>
    intro i σ h0 h1
    exfalso
    omega
  | succ n0 ih =>
    intro i σ h0 h1 hO hR
    refine aw_iload_n G dL_law_18 rfl ?_
    refine aw_aload_b G dL_law_19 rfl ?_
    refine aw_slen G hX dL_law_20 ?_
    refine aw_iconst G dL_law_21 ?_
    refine aw_isub G dL_law_22 ?_
    refine aw_icmp_gt (tgt := 1225) G dL_law_23 (by decide) (by omega) (by omega) (fun _ => hend _ _) (fun c23 => ?_)
    have nxt : ∀ τ : St, OK τ → RX τ τ → AW X V τ 1219 [] [some (.ref b), some (rv V 0), some (rv V 75), some (iv i)] := by
      intro τ hO2 hR2
      refine aw_iinc_3 G dL_law_1219 rfl (hc := rfl) (k := ?_)
      refine aw_goto (tgt := 18) G dL_law_1222 (by decide) ?_
      exact ih (i + 5) τ (by omega) (by omega) hO2 hR2
    refine aw_aload_b G dL_law_26 rfl ?_
    refine aw_iload_n G dL_law_27 rfl ?_
    refine aw_sld G hX dL_law_28 (by omega) (by omega) ?_
    refine aw_bipush G dL_law_29 (k := ?_)
    refine aw_iand G dL_law_31 ?_
    have hm : iand (sv xs i) 63 = sv xs i % 64 := iand_m (x := sv xs i) (m := 63) 6 (by decide) (by decide)
    rw [hm]
    have hz := Int.emod_nonneg (sv xs i) (show (64 : Int) ≠ 0 by decide)
    have hz2 := Int.emod_lt_of_pos (sv xs i) (show (0 : Int) < 64 by decide)
    generalize sv xs i % 64 = z at hz hz2
    by_cases s0 : z = 0
    · refine aw_tswIn (off := 164) (tgt := 196) G dL_law_32 (by omega) (by omega) (by omega) (by rw [s0]; rfl) (by decide) ?_
      refine aw_aload_n G dL_law_196 rfl ?_
      refine aw_aload_b G dL_law_197 rfl ?_
      refine aw_iload_n G dL_law_198 rfl ?_
      refine aw_iconst G dL_law_199 ?_
      refine aw_iadd G dL_law_200 ?_
      refine aw_sld G hX dL_law_201 (by omega) (by omega) ?_
      refine cv_L_13 G dL_law_202 (c_X9_letter (α := σ) (sR _ _) hO hR) (kk := fun r202 t202 h202 => ?_)
      refine aw_aload_n G dL_law_205 rfl ?_
      refine aw_aload_b G dL_law_206 rfl ?_
      refine aw_iload_n G dL_law_207 rfl ?_
      refine aw_iconst G dL_law_208 ?_
      refine aw_iadd G dL_law_209 ?_
      refine aw_sld G hX dL_law_210 (by omega) (by omega) ?_
      refine cv_L_17 G dL_law_211 (c_X10_letter (sR _ _) (OK.ms h202.2.2 hO)) (kk := fun r211 t211 h211 => ?_)
      obtain ⟨e1, hO2, hR2⟩ := fx_step (fx_letter (sv xs (i + 1))) hO h202 ⟨h211.1, ME.e h211.2⟩
      refine aw_same (tgt := 1219) G dL_law_214 (by decide) e1 ?_
      exact nxt _ hO2 hR2
    by_cases s1 : z = 1
    · refine aw_tswIn (off := 187) (tgt := 219) G dL_law_32 (by omega) (by omega) (by omega) (by rw [s1]; rfl) (by decide) ?_
      refine aw_aload_n G dL_law_219 rfl ?_
      refine cv_L_18 G dL_law_220 (c_X9_text (α := σ)  hO hR) (kk := fun r220 t220 h220 => ?_)
      refine aw_aload_n G dL_law_223 rfl ?_
      refine cv_L_22 G dL_law_224 (c_X10_text  (OK.ms h220.2.2 hO)) (kk := fun r224 t224 h224 => ?_)
      obtain ⟨e1, hO2, hR2⟩ := fx_step (fx_text) hO h220 h224
      refine aw_same (tgt := 1219) G dL_law_227 (by decide) e1 ?_
      exact nxt _ hO2 hR2
    by_cases s2 : z = 2
    · refine aw_tswIn (off := 200) (tgt := 232) G dL_law_32 (by omega) (by omega) (by omega) (by rw [s2]; rfl) (by decide) ?_
      refine aw_aload_n G dL_law_232 rfl ?_
      refine aw_aload_b G dL_law_233 rfl ?_
      refine aw_iload_n G dL_law_234 rfl ?_
      refine aw_iconst G dL_law_235 ?_
      refine aw_iadd G dL_law_236 ?_
      refine aw_sld G hX dL_law_237 (by omega) (by omega) ?_
      refine cv_L_23 G dL_law_238 (c_X9_points (α := σ) (sR _ _) hO hR) (kk := fun r238 t238 h238 => ?_)
      refine aw_aload_n G dL_law_241 rfl ?_
      refine aw_aload_b G dL_law_242 rfl ?_
      refine aw_iload_n G dL_law_243 rfl ?_
      refine aw_iconst G dL_law_244 ?_
      refine aw_iadd G dL_law_245 ?_
      refine aw_sld G hX dL_law_246 (by omega) (by omega) ?_
      refine cv_L_26 G dL_law_247 (c_X10_points (sR _ _)) (kk := fun r247 t247 h247 => ?_)
      obtain ⟨e1, hO2, hR2⟩ := fx_step (fx_points (sv xs (i + 1))) hO h238 ⟨h247.1, ME.e h247.2⟩
      refine aw_same (tgt := 1219) G dL_law_250 (by decide) e1 ?_
      exact nxt _ hO2 hR2
    by_cases s3 : z = 3
    · refine aw_tswIn (off := 223) (tgt := 255) G dL_law_32 (by omega) (by omega) (by omega) (by rw [s3]; rfl) (by decide) ?_
      refine aw_aload_n G dL_law_255 rfl ?_
      refine aw_aload_b G dL_law_256 rfl ?_
      refine aw_iload_n G dL_law_257 rfl ?_
      refine aw_iconst G dL_law_258 ?_
      refine aw_iadd G dL_law_259 ?_
      refine aw_sld G hX dL_law_260 (by omega) (by omega) ?_
      refine aw_aload_b G dL_law_261 rfl ?_
      refine aw_iload_n G dL_law_262 rfl ?_
      refine aw_iconst G dL_law_263 ?_
      refine aw_iadd G dL_law_264 ?_
      refine aw_sld G hX dL_law_265 (by omega) (by omega) ?_
      refine aw_aload_b G dL_law_266 rfl ?_
      refine aw_iload_n G dL_law_267 rfl ?_
      refine aw_iconst G dL_law_268 ?_
      refine aw_iadd G dL_law_269 ?_
      refine aw_sld G hX dL_law_270 (by omega) (by omega) ?_
      refine cv_L_27 G dL_law_271 (c_X9_line (α := σ) (sR _ _) (sR _ _) (sR _ _) hO hR) (kk := fun r271 t271 h271 => ?_)
      refine aw_aload_n G dL_law_274 rfl ?_
      refine aw_aload_b G dL_law_275 rfl ?_
      refine aw_iload_n G dL_law_276 rfl ?_
      refine aw_iconst G dL_law_277 ?_
      refine aw_iadd G dL_law_278 ?_
      refine aw_sld G hX dL_law_279 (by omega) (by omega) ?_
      refine aw_aload_b G dL_law_280 rfl ?_
      refine aw_iload_n G dL_law_281 rfl ?_
      refine aw_iconst G dL_law_282 ?_
      refine aw_iadd G dL_law_283 ?_
      refine aw_sld G hX dL_law_284 (by omega) (by omega) ?_
      refine aw_aload_b G dL_law_285 rfl ?_
      refine aw_iload_n G dL_law_286 rfl ?_
      refine aw_iconst G dL_law_287 ?_
      refine aw_iadd G dL_law_288 ?_
      refine aw_sld G hX dL_law_289 (by omega) (by omega) ?_
      refine cv_L_31 G dL_law_290 (c_X10_line (sR _ _) (sR _ _) (sR _ _) (OK.ms h271.2.2 hO)) (kk := fun r290 t290 h290 => ?_)
      obtain ⟨e1, hO2, hR2⟩ := fx_step (fx_line (sv xs (i + 1)) (sv xs (i + 2)) (sv xs (i + 3))) hO h271 ⟨h290.1, ME.e h290.2⟩
      refine aw_same (tgt := 1219) G dL_law_293 (by decide) e1 ?_
      exact nxt _ hO2 hR2
    by_cases s4 : z = 4
    · refine aw_tswIn (off := 266) (tgt := 298) G dL_law_32 (by omega) (by omega) (by omega) (by rw [s4]; rfl) (by decide) ?_
      refine aw_aload_n G dL_law_298 rfl ?_
      refine cv_L_32 G dL_law_299 (c_X9_drop (α := σ)  hO hR) (kk := fun r299 t299 h299 => ?_)
      refine aw_aload_n G dL_law_302 rfl ?_
      refine cv_L_35 G dL_law_303 (c_X10_drop  (OK.ms h299.2.2 hO)) (kk := fun r303 t303 h303 => ?_)
      obtain ⟨e1, hO2, hR2⟩ := fx_step (fx_drop) hO h299 ⟨h303.1, ME.e h303.2⟩
      refine aw_same (tgt := 1219) G dL_law_306 (by decide) e1 ?_
      exact nxt _ hO2 hR2
    by_cases s5 : z = 5
    · refine aw_tswIn (off := 279) (tgt := 311) G dL_law_32 (by omega) (by omega) (by omega) (by rw [s5]; rfl) (by decide) ?_
      refine aw_aload_n G dL_law_311 rfl ?_
      refine aw_aload_b G dL_law_312 rfl ?_
      refine aw_iload_n G dL_law_313 rfl ?_
      refine aw_iconst G dL_law_314 ?_
      refine aw_iadd G dL_law_315 ?_
      refine aw_sld G hX dL_law_316 (by omega) (by omega) ?_
      refine aw_aload_b G dL_law_317 rfl ?_
      refine aw_iload_n G dL_law_318 rfl ?_
      refine aw_iconst G dL_law_319 ?_
      refine aw_iadd G dL_law_320 ?_
      refine aw_sld G hX dL_law_321 (by omega) (by omega) ?_
      refine cv_L_36 G dL_law_322 (c_X9_label (α := σ) (sR _ _) (sR _ _) hO hR) (kk := fun r322 t322 h322 => ?_)
      refine aw_aload_n G dL_law_325 rfl ?_
      refine aw_aload_b G dL_law_326 rfl ?_
      refine aw_iload_n G dL_law_327 rfl ?_
      refine aw_iconst G dL_law_328 ?_
      refine aw_iadd G dL_law_329 ?_
      refine aw_sld G hX dL_law_330 (by omega) (by omega) ?_
      refine aw_aload_b G dL_law_331 rfl ?_
      refine aw_iload_n G dL_law_332 rfl ?_
      refine aw_iconst G dL_law_333 ?_
      refine aw_iadd G dL_law_334 ?_
      refine aw_sld G hX dL_law_335 (by omega) (by omega) ?_
      refine cv_L_40 G dL_law_336 (c_X10_label (sR _ _) (sR _ _) (OK.ms h322.2.2 hO)) (kk := fun r336 t336 h336 => ?_)
      obtain ⟨e1, hO2, hR2⟩ := fx_step (fx_label (sv xs (i + 1)) (sv xs (i + 2))) hO h322 ⟨h336.1, ME.e h336.2⟩
      refine aw_same (tgt := 1219) G dL_law_339 (by decide) e1 ?_
      exact nxt _ hO2 hR2
    by_cases s6 : z = 6
    · refine aw_tswIn (off := 312) (tgt := 344) G dL_law_32 (by omega) (by omega) (by omega) (by rw [s6]; rfl) (by decide) ?_
      refine aw_aload_n G dL_law_344 rfl ?_
      refine aw_aload_b G dL_law_345 rfl ?_
      refine aw_iload_n G dL_law_346 rfl ?_
      refine aw_iconst G dL_law_347 ?_
      refine aw_iadd G dL_law_348 ?_
      refine aw_sld G hX dL_law_349 (by omega) (by omega) ?_
      refine aw_aload_b G dL_law_350 rfl ?_
      refine aw_iload_n G dL_law_351 rfl ?_
      refine aw_iconst G dL_law_352 ?_
      refine aw_iadd G dL_law_353 ?_
      refine aw_sld G hX dL_law_354 (by omega) (by omega) ?_
      refine aw_aload_b G dL_law_355 rfl ?_
      refine aw_iload_n G dL_law_356 rfl ?_
      refine aw_iconst G dL_law_357 ?_
      refine aw_iadd G dL_law_358 ?_
      refine aw_sld G hX dL_law_359 (by omega) (by omega) ?_
      refine cv_L_41 G dL_law_360 (c_X9_turn (α := σ) (sR _ _) (sR _ _) (sR _ _) hO hR) (kk := fun r360 t360 h360 => ?_)
      refine aw_aload_n G dL_law_363 rfl ?_
      refine aw_aload_b G dL_law_364 rfl ?_
      refine aw_iload_n G dL_law_365 rfl ?_
      refine aw_iconst G dL_law_366 ?_
      refine aw_iadd G dL_law_367 ?_
      refine aw_sld G hX dL_law_368 (by omega) (by omega) ?_
      refine aw_aload_b G dL_law_369 rfl ?_
      refine aw_iload_n G dL_law_370 rfl ?_
      refine aw_iconst G dL_law_371 ?_
      refine aw_iadd G dL_law_372 ?_
      refine aw_sld G hX dL_law_373 (by omega) (by omega) ?_
      refine aw_aload_b G dL_law_374 rfl ?_
      refine aw_iload_n G dL_law_375 rfl ?_
      refine aw_iconst G dL_law_376 ?_
      refine aw_iadd G dL_law_377 ?_
      refine aw_sld G hX dL_law_378 (by omega) (by omega) ?_
      refine cv_L_44 G dL_law_379 (c_X10_turn (sR _ _) (sR _ _) (sR _ _) (OK.ms h360.2.2 hO)) (kk := fun r379 t379 h379 => ?_)
      obtain ⟨e1, hO2, hR2⟩ := fx_step (fx_turn (sv xs (i + 1)) (sv xs (i + 2)) (sv xs (i + 3))) hO h360 ⟨h379.1, ME.e h379.2⟩
      refine aw_same (tgt := 1219) G dL_law_382 (by decide) e1 ?_
      exact nxt _ hO2 hR2
    by_cases s7 : z = 7
    · refine aw_tswIn (off := 355) (tgt := 387) G dL_law_32 (by omega) (by omega) (by omega) (by rw [s7]; rfl) (by decide) ?_
      refine aw_aload_n G dL_law_387 rfl ?_
      refine aw_aload_b G dL_law_388 rfl ?_
      refine aw_iload_n G dL_law_389 rfl ?_
      refine aw_iconst G dL_law_390 ?_
      refine aw_iadd G dL_law_391 ?_
      refine aw_sld G hX dL_law_392 (by omega) (by omega) ?_
      refine aw_aload_b G dL_law_393 rfl ?_
      refine aw_iload_n G dL_law_394 rfl ?_
      refine aw_iconst G dL_law_395 ?_
      refine aw_iadd G dL_law_396 ?_
      refine aw_sld G hX dL_law_397 (by omega) (by omega) ?_
      refine cv_L_45 G dL_law_398 (c_X9_of (α := σ) (sR _ _) (sR _ _) hO hR) (kk := fun r398 t398 h398 => ?_)
      refine aw_aload_n G dL_law_401 rfl ?_
      refine aw_aload_b G dL_law_402 rfl ?_
      refine aw_iload_n G dL_law_403 rfl ?_
      refine aw_iconst G dL_law_404 ?_
      refine aw_iadd G dL_law_405 ?_
      refine aw_sld G hX dL_law_406 (by omega) (by omega) ?_
      refine aw_aload_b G dL_law_407 rfl ?_
      refine aw_iload_n G dL_law_408 rfl ?_
      refine aw_iconst G dL_law_409 ?_
      refine aw_iadd G dL_law_410 ?_
      refine aw_sld G hX dL_law_411 (by omega) (by omega) ?_
      refine cv_L_48 G dL_law_412 (c_X10_of (sR _ _) (sR _ _) (OK.ms h398.2.2 hO)) (kk := fun r412 t412 h412 => ?_)
      obtain ⟨e1, hO2, hR2⟩ := fx_step (fx_of (sv xs (i + 1)) (sv xs (i + 2))) hO h398 ⟨h412.1, ME.e h412.2⟩
      refine aw_same (tgt := 1219) G dL_law_415 (by decide) e1 ?_
      exact nxt _ hO2 hR2
    by_cases s8 : z = 8
    · refine aw_tswIn (off := 388) (tgt := 420) G dL_law_32 (by omega) (by omega) (by omega) (by rw [s8]; rfl) (by decide) ?_
      refine aw_aload_n G dL_law_420 rfl ?_
      refine aw_aload_b G dL_law_421 rfl ?_
      refine aw_iload_n G dL_law_422 rfl ?_
      refine aw_iconst G dL_law_423 ?_
      refine aw_iadd G dL_law_424 ?_
      refine aw_sld G hX dL_law_425 (by omega) (by omega) ?_
      refine aw_aload_b G dL_law_426 rfl ?_
      refine aw_iload_n G dL_law_427 rfl ?_
      refine aw_iconst G dL_law_428 ?_
      refine aw_iadd G dL_law_429 ?_
      refine aw_sld G hX dL_law_430 (by omega) (by omega) ?_
      refine cv_L_49 G dL_law_431 (c_X9_taken (α := σ) (sR _ _) (sR _ _) hO hR) (kk := fun r431 t431 h431 => ?_)
      refine aw_aload_n G dL_law_434 rfl ?_
      refine aw_aload_b G dL_law_435 rfl ?_
      refine aw_iload_n G dL_law_436 rfl ?_
      refine aw_iconst G dL_law_437 ?_
      refine aw_iadd G dL_law_438 ?_
      refine aw_sld G hX dL_law_439 (by omega) (by omega) ?_
      refine aw_aload_b G dL_law_440 rfl ?_
      refine aw_iload_n G dL_law_441 rfl ?_
      refine aw_iconst G dL_law_442 ?_
      refine aw_iadd G dL_law_443 ?_
      refine aw_sld G hX dL_law_444 (by omega) (by omega) ?_
      refine cv_L_52 G dL_law_445 (c_X10_taken (sR _ _) (sR _ _) (OK.ms h431.2.2 hO)) (kk := fun r445 t445 h445 => ?_)
      obtain ⟨e1, hO2, hR2⟩ := fx_step (fx_taken (sv xs (i + 1)) (sv xs (i + 2))) hO h431 ⟨h445.1, ME.e h445.2⟩
      refine aw_same (tgt := 1219) G dL_law_448 (by decide) e1 ?_
      exact nxt _ hO2 hR2
    by_cases s9 : z = 9
    · refine aw_tswIn (off := 421) (tgt := 453) G dL_law_32 (by omega) (by omega) (by omega) (by rw [s9]; rfl) (by decide) ?_
      refine aw_aload_n G dL_law_453 rfl ?_
      refine aw_aload_b G dL_law_454 rfl ?_
      refine aw_iload_n G dL_law_455 rfl ?_
      refine aw_iconst G dL_law_456 ?_
      refine aw_iadd G dL_law_457 ?_
      refine aw_sld G hX dL_law_458 (by omega) (by omega) ?_
      refine aw_aload_b G dL_law_459 rfl ?_
      refine aw_iload_n G dL_law_460 rfl ?_
      refine aw_iconst G dL_law_461 ?_
      refine aw_iadd G dL_law_462 ?_
      refine aw_sld G hX dL_law_463 (by omega) (by omega) ?_
      refine cv_L_53 G dL_law_464 (c_X9_table (α := σ) (sR _ _) (sR _ _) hO hR) (kk := fun r464 t464 h464 => ?_)
      refine aw_aload_n G dL_law_467 rfl ?_
      refine aw_aload_b G dL_law_468 rfl ?_
      refine aw_iload_n G dL_law_469 rfl ?_
      refine aw_iconst G dL_law_470 ?_
      refine aw_iadd G dL_law_471 ?_
      refine aw_sld G hX dL_law_472 (by omega) (by omega) ?_
      refine aw_aload_b G dL_law_473 rfl ?_
      refine aw_iload_n G dL_law_474 rfl ?_
      refine aw_iconst G dL_law_475 ?_
      refine aw_iadd G dL_law_476 ?_
      refine aw_sld G hX dL_law_477 (by omega) (by omega) ?_
      refine cv_L_56 G dL_law_478 (c_X10_table (sR _ _) (sR _ _) (OK.ms h464.2.2 hO)) (kk := fun r478 t478 h478 => ?_)
      obtain ⟨e1, hO2, hR2⟩ := fx_step (fx_table (sv xs (i + 1)) (sv xs (i + 2))) hO h464 ⟨h478.1, ME.e h478.2⟩
      refine aw_same (tgt := 1219) G dL_law_481 (by decide) e1 ?_
      exact nxt _ hO2 hR2
    by_cases s10 : z = 10
    · refine aw_tswIn (off := 454) (tgt := 486) G dL_law_32 (by omega) (by omega) (by omega) (by rw [s10]; rfl) (by decide) ?_
      refine aw_aload_n G dL_law_486 rfl ?_
      refine aw_aload_b G dL_law_487 rfl ?_
      refine aw_iload_n G dL_law_488 rfl ?_
      refine aw_iconst G dL_law_489 ?_
      refine aw_iadd G dL_law_490 ?_
      refine aw_sld G hX dL_law_491 (by omega) (by omega) ?_
      refine cv_L_57 G dL_law_492 (c_X9_sum (α := σ) (sR _ _) hO hR) (kk := fun r492 t492 h492 => ?_)
      refine aw_aload_n G dL_law_495 rfl ?_
      refine aw_aload_b G dL_law_496 rfl ?_
      refine aw_iload_n G dL_law_497 rfl ?_
      refine aw_iconst G dL_law_498 ?_
      refine aw_iadd G dL_law_499 ?_
      refine aw_sld G hX dL_law_500 (by omega) (by omega) ?_
      refine cv_L_60 G dL_law_501 (c_X10_sum (sR _ _) (OK.ms h492.2.2 hO)) (kk := fun r501 t501 h501 => ?_)
      obtain ⟨e1, hO2, hR2⟩ := fx_step (fx_sum (sv xs (i + 1))) hO h492 h501
      refine aw_same (tgt := 1219) G dL_law_504 (by decide) e1 ?_
      exact nxt _ hO2 hR2
    by_cases s11 : z = 11
    · refine aw_tswIn (off := 477) (tgt := 509) G dL_law_32 (by omega) (by omega) (by omega) (by rw [s11]; rfl) (by decide) ?_
      refine aw_aload_n G dL_law_509 rfl ?_
      refine cv_L_61 G dL_law_510 (c_X9_total (α := σ)  hO hR) (kk := fun r510 t510 h510 => ?_)
      refine aw_aload_n G dL_law_513 rfl ?_
      refine cv_L_64 G dL_law_514 (c_X10_total  (OK.ms h510.2.2 hO)) (kk := fun r514 t514 h514 => ?_)
      obtain ⟨e1, hO2, hR2⟩ := fx_step (fx_total) hO h510 h514
      refine aw_same (tgt := 1219) G dL_law_517 (by decide) e1 ?_
      exact nxt _ hO2 hR2
    by_cases s12 : z = 12
    · refine aw_tswIn (off := 490) (tgt := 522) G dL_law_32 (by omega) (by omega) (by omega) (by rw [s12]; rfl) (by decide) ?_
      refine aw_aload_n G dL_law_522 rfl ?_
      refine aw_aload_b G dL_law_523 rfl ?_
      refine aw_iload_n G dL_law_524 rfl ?_
      refine aw_iconst G dL_law_525 ?_
      refine aw_iadd G dL_law_526 ?_
      refine aw_sld G hX dL_law_527 (by omega) (by omega) ?_
      refine cv_L_65 G dL_law_528 (c_X9_rule (α := σ) (sR _ _) hO hR) (kk := fun r528 t528 h528 => ?_)
      refine aw_aload_n G dL_law_531 rfl ?_
      refine aw_aload_b G dL_law_532 rfl ?_
      refine aw_iload_n G dL_law_533 rfl ?_
      refine aw_iconst G dL_law_534 ?_
      refine aw_iadd G dL_law_535 ?_
      refine aw_sld G hX dL_law_536 (by omega) (by omega) ?_
      refine cv_L_68 G dL_law_537 (c_X10_rule (sR _ _) (OK.ms h528.2.2 hO)) (kk := fun r537 t537 h537 => ?_)
      obtain ⟨e1, hO2, hR2⟩ := fx_step (fx_rule (sv xs (i + 1))) hO h528 h537
      refine aw_same (tgt := 1219) G dL_law_540 (by decide) e1 ?_
      exact nxt _ hO2 hR2
    by_cases s13 : z = 13
    · refine aw_tswIn (off := 513) (tgt := 545) G dL_law_32 (by omega) (by omega) (by omega) (by rw [s13]; rfl) (by decide) ?_
      refine aw_aload_n G dL_law_545 rfl ?_
      refine aw_aload_b G dL_law_546 rfl ?_
      refine aw_iload_n G dL_law_547 rfl ?_
      refine aw_iconst G dL_law_548 ?_
      refine aw_iadd G dL_law_549 ?_
      refine aw_sld G hX dL_law_550 (by omega) (by omega) ?_
      refine cv_L_69 G dL_law_551 (c_X9_ranked (α := σ) (sR _ _) hO hR) (kk := fun r551 t551 h551 => ?_)
      refine aw_aload_n G dL_law_554 rfl ?_
      refine aw_aload_b G dL_law_555 rfl ?_
      refine aw_iload_n G dL_law_556 rfl ?_
      refine aw_iconst G dL_law_557 ?_
      refine aw_iadd G dL_law_558 ?_
      refine aw_sld G hX dL_law_559 (by omega) (by omega) ?_
      refine cv_L_72 G dL_law_560 (c_X10_ranked (sR _ _) (OK.ms h551.2.2 hO)) (kk := fun r560 t560 h560 => ?_)
      obtain ⟨e1, hO2, hR2⟩ := fx_step (fx_ranked (sv xs (i + 1))) hO h551 h560
      refine aw_same (tgt := 1219) G dL_law_563 (by decide) e1 ?_
      exact nxt _ hO2 hR2
    by_cases s14 : z = 14
    · refine aw_tswIn (off := 536) (tgt := 568) G dL_law_32 (by omega) (by omega) (by omega) (by rw [s14]; rfl) (by decide) ?_
      refine aw_aload_n G dL_law_568 rfl ?_
      refine aw_aload_b G dL_law_569 rfl ?_
      refine aw_iload_n G dL_law_570 rfl ?_
      refine aw_iconst G dL_law_571 ?_
      refine aw_iadd G dL_law_572 ?_
      refine aw_sld G hX dL_law_573 (by omega) (by omega) ?_
      refine aw_aload_b G dL_law_574 rfl ?_
      refine aw_iload_n G dL_law_575 rfl ?_
      refine aw_iconst G dL_law_576 ?_
      refine aw_iadd G dL_law_577 ?_
      refine aw_sld G hX dL_law_578 (by omega) (by omega) ?_
      refine aw_aload_b G dL_law_579 rfl ?_
      refine aw_iload_n G dL_law_580 rfl ?_
      refine aw_iconst G dL_law_581 ?_
      refine aw_iadd G dL_law_582 ?_
      refine aw_sld G hX dL_law_583 (by omega) (by omega) ?_
      refine aw_aload_b G dL_law_584 rfl ?_
      refine aw_iload_n G dL_law_585 rfl ?_
      refine aw_iconst G dL_law_586 ?_
      refine aw_iadd G dL_law_587 ?_
      refine aw_sld G hX dL_law_588 (by omega) (by omega) ?_
      refine cv_L_73 G dL_law_589 (c_X9_ways (α := σ) (sR _ _) (sR _ _) (sR _ _) (sR _ _) hO hR) (kk := fun r589 t589 h589 => ?_)
      refine aw_aload_n G dL_law_592 rfl ?_
      refine aw_aload_b G dL_law_593 rfl ?_
      refine aw_iload_n G dL_law_594 rfl ?_
      refine aw_iconst G dL_law_595 ?_
      refine aw_iadd G dL_law_596 ?_
      refine aw_sld G hX dL_law_597 (by omega) (by omega) ?_
      refine aw_aload_b G dL_law_598 rfl ?_
      refine aw_iload_n G dL_law_599 rfl ?_
      refine aw_iconst G dL_law_600 ?_
      refine aw_iadd G dL_law_601 ?_
      refine aw_sld G hX dL_law_602 (by omega) (by omega) ?_
      refine aw_aload_b G dL_law_603 rfl ?_
      refine aw_iload_n G dL_law_604 rfl ?_
      refine aw_iconst G dL_law_605 ?_
      refine aw_iadd G dL_law_606 ?_
      refine aw_sld G hX dL_law_607 (by omega) (by omega) ?_
      refine aw_aload_b G dL_law_608 rfl ?_
      refine aw_iload_n G dL_law_609 rfl ?_
      refine aw_iconst G dL_law_610 ?_
      refine aw_iadd G dL_law_611 ?_
      refine aw_sld G hX dL_law_612 (by omega) (by omega) ?_
      refine cv_L_77 G dL_law_613 (c_X10_ways (sR _ _) (sR _ _) (sR _ _) (sR _ _) (OK.ms h589.2.2 hO)) (kk := fun r613 t613 h613 => ?_)
      obtain ⟨e1, hO2, hR2⟩ := fx_step (fx_ways (sv xs (i + 1)) (sv xs (i + 2)) (sv xs (i + 3)) (sv xs (i + 4))) hO h589 h613
      refine aw_same (tgt := 1219) G dL_law_616 (by decide) e1 ?_
      exact nxt _ hO2 hR2
    by_cases s15 : z = 15
    · refine aw_tswIn (off := 589) (tgt := 621) G dL_law_32 (by omega) (by omega) (by omega) (by rw [s15]; rfl) (by decide) ?_
      refine aw_aload_n G dL_law_621 rfl ?_
      refine aw_aload_b G dL_law_622 rfl ?_
      refine aw_iload_n G dL_law_623 rfl ?_
      refine aw_iconst G dL_law_624 ?_
      refine aw_iadd G dL_law_625 ?_
      refine aw_sld G hX dL_law_626 (by omega) (by omega) ?_
      refine aw_aload_b G dL_law_627 rfl ?_
      refine aw_iload_n G dL_law_628 rfl ?_
      refine aw_iconst G dL_law_629 ?_
      refine aw_iadd G dL_law_630 ?_
      refine aw_sld G hX dL_law_631 (by omega) (by omega) ?_
      refine aw_aload_b G dL_law_632 rfl ?_
      refine aw_iload_n G dL_law_633 rfl ?_
      refine aw_iconst G dL_law_634 ?_
      refine aw_iadd G dL_law_635 ?_
      refine aw_sld G hX dL_law_636 (by omega) (by omega) ?_
      refine cv_L_78 G dL_law_637 (c_X9_magic (α := σ) (sR _ _) (sR _ _) (sR _ _) hO hR) (kk := fun r637 t637 h637 => ?_)
      refine aw_aload_n G dL_law_640 rfl ?_
      refine aw_aload_b G dL_law_641 rfl ?_
      refine aw_iload_n G dL_law_642 rfl ?_
      refine aw_iconst G dL_law_643 ?_
      refine aw_iadd G dL_law_644 ?_
      refine aw_sld G hX dL_law_645 (by omega) (by omega) ?_
      refine aw_aload_b G dL_law_646 rfl ?_
      refine aw_iload_n G dL_law_647 rfl ?_
      refine aw_iconst G dL_law_648 ?_
      refine aw_iadd G dL_law_649 ?_
      refine aw_sld G hX dL_law_650 (by omega) (by omega) ?_
      refine aw_aload_b G dL_law_651 rfl ?_
      refine aw_iload_n G dL_law_652 rfl ?_
      refine aw_iconst G dL_law_653 ?_
      refine aw_iadd G dL_law_654 ?_
      refine aw_sld G hX dL_law_655 (by omega) (by omega) ?_
      refine cv_L_81 G dL_law_656 (c_X10_magic (sR _ _) (sR _ _) (sR _ _) (OK.ms h637.2.2 hO)) (kk := fun r656 t656 h656 => ?_)
      obtain ⟨e1, hO2, hR2⟩ := fx_step (fx_magic (sv xs (i + 1)) (sv xs (i + 2)) (sv xs (i + 3))) hO h637 h656
      refine aw_same (tgt := 1219) G dL_law_659 (by decide) e1 ?_
      exact nxt _ hO2 hR2
    by_cases s16 : z = 16
    · refine aw_tswIn (off := 632) (tgt := 664) G dL_law_32 (by omega) (by omega) (by omega) (by rw [s16]; rfl) (by decide) ?_
      refine aw_aload_n G dL_law_664 rfl ?_
      refine aw_aload_b G dL_law_665 rfl ?_
      refine aw_iload_n G dL_law_666 rfl ?_
      refine aw_iconst G dL_law_667 ?_
      refine aw_iadd G dL_law_668 ?_
      refine aw_sld G hX dL_law_669 (by omega) (by omega) ?_
      refine aw_aload_b G dL_law_670 rfl ?_
      refine aw_iload_n G dL_law_671 rfl ?_
      refine aw_iconst G dL_law_672 ?_
      refine aw_iadd G dL_law_673 ?_
      refine aw_sld G hX dL_law_674 (by omega) (by omega) ?_
      refine cv_L_82 G dL_law_675 (c_X9_difference (α := σ) (sR _ _) (sR _ _) hO hR) (kk := fun r675 t675 h675 => ?_)
      refine aw_aload_n G dL_law_678 rfl ?_
      refine aw_aload_b G dL_law_679 rfl ?_
      refine aw_iload_n G dL_law_680 rfl ?_
      refine aw_iconst G dL_law_681 ?_
      refine aw_iadd G dL_law_682 ?_
      refine aw_sld G hX dL_law_683 (by omega) (by omega) ?_
      refine aw_aload_b G dL_law_684 rfl ?_
      refine aw_iload_n G dL_law_685 rfl ?_
      refine aw_iconst G dL_law_686 ?_
      refine aw_iadd G dL_law_687 ?_
      refine aw_sld G hX dL_law_688 (by omega) (by omega) ?_
      refine cv_L_85 G dL_law_689 (c_X10_difference (sR _ _) (sR _ _) (OK.ms h675.2.2 hO)) (kk := fun r689 t689 h689 => ?_)
      obtain ⟨e1, hO2, hR2⟩ := fx_step (fx_difference (sv xs (i + 1)) (sv xs (i + 2))) hO h675 h689
      refine aw_same (tgt := 1219) G dL_law_692 (by decide) e1 ?_
      exact nxt _ hO2 hR2
    by_cases s17 : z = 17
    · refine aw_tswIn (off := 665) (tgt := 697) G dL_law_32 (by omega) (by omega) (by omega) (by rw [s17]; rfl) (by decide) ?_
      refine aw_aload_n G dL_law_697 rfl ?_
      refine cv_L_86 G dL_law_698 (c_X9_settled (α := σ)  hO hR) (kk := fun r698 t698 h698 => ?_)
      refine aw_aload_n G dL_law_701 rfl ?_
      refine cv_L_89 G dL_law_702 (c_X10_settled  (OK.ms h698.2.2 hO)) (kk := fun r702 t702 h702 => ?_)
      obtain ⟨e1, hO2, hR2⟩ := fx_step (fx_settled) hO h698 h702
      refine aw_same (tgt := 1219) G dL_law_705 (by decide) e1 ?_
      exact nxt _ hO2 hR2
    by_cases s18 : z = 18
    · refine aw_tswIn (off := 678) (tgt := 710) G dL_law_32 (by omega) (by omega) (by omega) (by rw [s18]; rfl) (by decide) ?_
      refine aw_aload_n G dL_law_710 rfl ?_
      refine aw_aload_b G dL_law_711 rfl ?_
      refine aw_iload_n G dL_law_712 rfl ?_
      refine aw_iconst G dL_law_713 ?_
      refine aw_iadd G dL_law_714 ?_
      refine aw_sld G hX dL_law_715 (by omega) (by omega) ?_
      refine aw_aload_b G dL_law_716 rfl ?_
      refine aw_iload_n G dL_law_717 rfl ?_
      refine aw_iconst G dL_law_718 ?_
      refine aw_iadd G dL_law_719 ?_
      refine aw_sld G hX dL_law_720 (by omega) (by omega) ?_
      refine cv_L_90 G dL_law_721 (c_X9_orders (α := σ) (sR _ _) (sR _ _) hO hR) (kk := fun r721 t721 h721 => ?_)
      refine aw_aload_n G dL_law_724 rfl ?_
      refine aw_aload_b G dL_law_725 rfl ?_
      refine aw_iload_n G dL_law_726 rfl ?_
      refine aw_iconst G dL_law_727 ?_
      refine aw_iadd G dL_law_728 ?_
      refine aw_sld G hX dL_law_729 (by omega) (by omega) ?_
      refine aw_aload_b G dL_law_730 rfl ?_
      refine aw_iload_n G dL_law_731 rfl ?_
      refine aw_iconst G dL_law_732 ?_
      refine aw_iadd G dL_law_733 ?_
      refine aw_sld G hX dL_law_734 (by omega) (by omega) ?_
      refine cv_L_93 G dL_law_735 (c_X10_orders (sR _ _) (sR _ _) (OK.ms h721.2.2 hO)) (kk := fun r735 t735 h735 => ?_)
      obtain ⟨e1, hO2, hR2⟩ := fx_step (fx_orders (sv xs (i + 1)) (sv xs (i + 2))) hO h721 h735
      refine aw_same (tgt := 1219) G dL_law_738 (by decide) e1 ?_
      exact nxt _ hO2 hR2
    by_cases s19 : z = 19
    · refine aw_tswIn (off := 711) (tgt := 743) G dL_law_32 (by omega) (by omega) (by omega) (by rw [s19]; rfl) (by decide) ?_
      refine aw_aload_n G dL_law_743 rfl ?_
      refine cv_L_94 G dL_law_744 (c_X9_spread (α := σ)  hO hR) (kk := fun r744 t744 h744 => ?_)
      refine aw_aload_n G dL_law_747 rfl ?_
      refine cv_L_97 G dL_law_748 (c_X10_spread  (OK.ms h744.2.2 hO)) (kk := fun r748 t748 h748 => ?_)
      obtain ⟨e1, hO2, hR2⟩ := fx_step (fx_spread) hO h744 h748
      refine aw_same (tgt := 1219) G dL_law_751 (by decide) e1 ?_
      exact nxt _ hO2 hR2
    by_cases s20 : z = 20
    · refine aw_tswIn (off := 724) (tgt := 756) G dL_law_32 (by omega) (by omega) (by omega) (by rw [s20]; rfl) (by decide) ?_
      refine aw_aload_n G dL_law_756 rfl ?_
      refine aw_aload_b G dL_law_757 rfl ?_
      refine aw_iload_n G dL_law_758 rfl ?_
      refine aw_iconst G dL_law_759 ?_
      refine aw_iadd G dL_law_760 ?_
      refine aw_sld G hX dL_law_761 (by omega) (by omega) ?_
      refine aw_aload_b G dL_law_762 rfl ?_
      refine aw_iload_n G dL_law_763 rfl ?_
      refine aw_iconst G dL_law_764 ?_
      refine aw_iadd G dL_law_765 ?_
      refine aw_sld G hX dL_law_766 (by omega) (by omega) ?_
      refine aw_aload_b G dL_law_767 rfl ?_
      refine aw_iload_n G dL_law_768 rfl ?_
      refine aw_iconst G dL_law_769 ?_
      refine aw_iadd G dL_law_770 ?_
      refine aw_sld G hX dL_law_771 (by omega) (by omega) ?_
      refine cv_L_98 G dL_law_772 (c_X9_odds (α := σ) (sR _ _) (sR _ _) (sR _ _) hO hR) (kk := fun r772 t772 h772 => ?_)
      refine aw_aload_n G dL_law_775 rfl ?_
      refine aw_aload_b G dL_law_776 rfl ?_
      refine aw_iload_n G dL_law_777 rfl ?_
      refine aw_iconst G dL_law_778 ?_
      refine aw_iadd G dL_law_779 ?_
      refine aw_sld G hX dL_law_780 (by omega) (by omega) ?_
      refine aw_aload_b G dL_law_781 rfl ?_
      refine aw_iload_n G dL_law_782 rfl ?_
      refine aw_iconst G dL_law_783 ?_
      refine aw_iadd G dL_law_784 ?_
      refine aw_sld G hX dL_law_785 (by omega) (by omega) ?_
      refine aw_aload_b G dL_law_786 rfl ?_
      refine aw_iload_n G dL_law_787 rfl ?_
      refine aw_iconst G dL_law_788 ?_
      refine aw_iadd G dL_law_789 ?_
      refine aw_sld G hX dL_law_790 (by omega) (by omega) ?_
      refine cv_L_102 G dL_law_791 (c_X10_odds (sR _ _) (sR _ _) (sR _ _) (OK.ms h772.2.2 hO)) (kk := fun r791 t791 h791 => ?_)
      obtain ⟨e1, hO2, hR2⟩ := fx_step (fx_odds (sv xs (i + 1)) (sv xs (i + 2)) (sv xs (i + 3))) hO h772 h791
      refine aw_lsame G dL_law_794 e1 ?_
      refine aw_if_eq (tgt := 1219) G dL_law_795 (by decide) (by decide) (fun _ => ?_) (fun c => absurd rfl c)
      exact nxt _ hO2 hR2
    by_cases s21 : z = 21
    · refine aw_tswIn (off := 768) (tgt := 800) G dL_law_32 (by omega) (by omega) (by omega) (by rw [s21]; rfl) (by decide) ?_
      refine aw_aload_n G dL_law_800 rfl ?_
      refine aw_aload_b G dL_law_801 rfl ?_
      refine aw_iload_n G dL_law_802 rfl ?_
      refine aw_iconst G dL_law_803 ?_
      refine aw_iadd G dL_law_804 ?_
      refine aw_sld G hX dL_law_805 (by omega) (by omega) ?_
      refine aw_aload_b G dL_law_806 rfl ?_
      refine aw_iload_n G dL_law_807 rfl ?_
      refine aw_iconst G dL_law_808 ?_
      refine aw_iadd G dL_law_809 ?_
      refine aw_sld G hX dL_law_810 (by omega) (by omega) ?_
      refine aw_aload_b G dL_law_811 rfl ?_
      refine aw_iload_n G dL_law_812 rfl ?_
      refine aw_iconst G dL_law_813 ?_
      refine aw_iadd G dL_law_814 ?_
      refine aw_sld G hX dL_law_815 (by omega) (by omega) ?_
      refine aw_aload_b G dL_law_816 rfl ?_
      refine aw_iload_n G dL_law_817 rfl ?_
      refine aw_iconst G dL_law_818 ?_
      refine aw_iadd G dL_law_819 ?_
      refine aw_sld G hX dL_law_820 (by omega) (by omega) ?_
      refine cv_L_103 G dL_law_821 (c_X9_lots (α := σ) (sR _ _) (sR _ _) (sR _ _) (sR _ _) hO hR) (kk := fun r821 t821 h821 => ?_)
      refine aw_aload_n G dL_law_824 rfl ?_
      refine aw_aload_b G dL_law_825 rfl ?_
      refine aw_iload_n G dL_law_826 rfl ?_
      refine aw_iconst G dL_law_827 ?_
      refine aw_iadd G dL_law_828 ?_
      refine aw_sld G hX dL_law_829 (by omega) (by omega) ?_
      refine aw_aload_b G dL_law_830 rfl ?_
      refine aw_iload_n G dL_law_831 rfl ?_
      refine aw_iconst G dL_law_832 ?_
      refine aw_iadd G dL_law_833 ?_
      refine aw_sld G hX dL_law_834 (by omega) (by omega) ?_
      refine aw_aload_b G dL_law_835 rfl ?_
      refine aw_iload_n G dL_law_836 rfl ?_
      refine aw_iconst G dL_law_837 ?_
      refine aw_iadd G dL_law_838 ?_
      refine aw_sld G hX dL_law_839 (by omega) (by omega) ?_
      refine aw_aload_b G dL_law_840 rfl ?_
      refine aw_iload_n G dL_law_841 rfl ?_
      refine aw_iconst G dL_law_842 ?_
      refine aw_iadd G dL_law_843 ?_
      refine aw_sld G hX dL_law_844 (by omega) (by omega) ?_
      refine cv_L_106 G dL_law_845 (c_X10_lots (sR _ _) (sR _ _) (sR _ _) (sR _ _) (OK.ms h821.2.2 hO)) (kk := fun r845 t845 h845 => ?_)
      obtain ⟨e1, hO2, hR2⟩ := fx_step (fx_lots (sv xs (i + 1)) (sv xs (i + 2)) (sv xs (i + 3)) (sv xs (i + 4))) hO h821 h845
      refine aw_same (tgt := 1219) G dL_law_848 (by decide) e1 ?_
      exact nxt _ hO2 hR2
    by_cases s22 : z = 22
    · refine aw_tswIn (off := 821) (tgt := 853) G dL_law_32 (by omega) (by omega) (by omega) (by rw [s22]; rfl) (by decide) ?_
      refine aw_aload_n G dL_law_853 rfl ?_
      refine aw_aload_b G dL_law_854 rfl ?_
      refine aw_iload_n G dL_law_855 rfl ?_
      refine aw_iconst G dL_law_856 ?_
      refine aw_iadd G dL_law_857 ?_
      refine aw_sld G hX dL_law_858 (by omega) (by omega) ?_
      refine cv_L_107 G dL_law_859 (c_X9_rank (α := σ) (sR _ _) hO hR) (kk := fun r859 t859 h859 => ?_)
      refine aw_aload_n G dL_law_862 rfl ?_
      refine aw_aload_b G dL_law_863 rfl ?_
      refine aw_iload_n G dL_law_864 rfl ?_
      refine aw_iconst G dL_law_865 ?_
      refine aw_iadd G dL_law_866 ?_
      refine aw_sld G hX dL_law_867 (by omega) (by omega) ?_
      refine cv_L_110 G dL_law_868 (c_X10_rank (sR _ _) (OK.ms h859.2.2 hO)) (kk := fun r868 t868 h868 => ?_)
      obtain ⟨e1, hO2, hR2⟩ := fx_step (fx_rank (sv xs (i + 1))) hO h859 h868
      refine aw_same (tgt := 1219) G dL_law_871 (by decide) e1 ?_
      exact nxt _ hO2 hR2
    by_cases s23 : z = 23
    · refine aw_tswIn (off := 844) (tgt := 876) G dL_law_32 (by omega) (by omega) (by omega) (by rw [s23]; rfl) (by decide) ?_
      refine aw_aload_n G dL_law_876 rfl ?_
      refine aw_aload_b G dL_law_877 rfl ?_
      refine aw_iload_n G dL_law_878 rfl ?_
      refine aw_iconst G dL_law_879 ?_
      refine aw_iadd G dL_law_880 ?_
      refine aw_sld G hX dL_law_881 (by omega) (by omega) ?_
      refine cv_L_111 G dL_law_882 (c_X9_parts (α := σ) (sR _ _) hO hR) (kk := fun r882 t882 h882 => ?_)
      refine aw_aload_n G dL_law_885 rfl ?_
      refine aw_aload_b G dL_law_886 rfl ?_
      refine aw_iload_n G dL_law_887 rfl ?_
      refine aw_iconst G dL_law_888 ?_
      refine aw_iadd G dL_law_889 ?_
      refine aw_sld G hX dL_law_890 (by omega) (by omega) ?_
      refine cv_L_114 G dL_law_891 (c_X10_parts (sR _ _) (OK.ms h882.2.2 hO)) (kk := fun r891 t891 h891 => ?_)
      obtain ⟨e1, hO2, hR2⟩ := fx_step (fx_parts (sv xs (i + 1))) hO h882 h891
      refine aw_same (tgt := 1219) G dL_law_894 (by decide) e1 ?_
      exact nxt _ hO2 hR2
    by_cases s24 : z = 24
    · refine aw_tswIn (off := 867) (tgt := 899) G dL_law_32 (by omega) (by omega) (by omega) (by rw [s24]; rfl) (by decide) ?_
      refine aw_aload_n G dL_law_899 rfl ?_
      refine aw_aload_b G dL_law_900 rfl ?_
      refine aw_iload_n G dL_law_901 rfl ?_
      refine aw_iconst G dL_law_902 ?_
      refine aw_iadd G dL_law_903 ?_
      refine aw_sld G hX dL_law_904 (by omega) (by omega) ?_
      refine cv_L_115 G dL_law_905 (c_X9_sides (α := σ) (sR _ _) hO hR) (kk := fun r905 t905 h905 => ?_)
      refine aw_aload_n G dL_law_908 rfl ?_
      refine aw_aload_b G dL_law_909 rfl ?_
      refine aw_iload_n G dL_law_910 rfl ?_
      refine aw_iconst G dL_law_911 ?_
      refine aw_iadd G dL_law_912 ?_
      refine aw_sld G hX dL_law_913 (by omega) (by omega) ?_
      refine cv_L_118 G dL_law_914 (c_X10_sides (sR _ _) (OK.ms h905.2.2 hO)) (kk := fun r914 t914 h914 => ?_)
      obtain ⟨e1, hO2, hR2⟩ := fx_step (fx_sides (sv xs (i + 1))) hO h905 h914
      refine aw_same (tgt := 1219) G dL_law_917 (by decide) e1 ?_
      exact nxt _ hO2 hR2
    by_cases s25 : z = 25
    · refine aw_tswIn (off := 890) (tgt := 922) G dL_law_32 (by omega) (by omega) (by omega) (by rw [s25]; rfl) (by decide) ?_
      refine aw_aload_n G dL_law_922 rfl ?_
      refine aw_aload_b G dL_law_923 rfl ?_
      refine aw_iload_n G dL_law_924 rfl ?_
      refine aw_iconst G dL_law_925 ?_
      refine aw_iadd G dL_law_926 ?_
      refine aw_sld G hX dL_law_927 (by omega) (by omega) ?_
      refine cv_L_119 G dL_law_928 (c_X9_written (α := σ) (sR _ _) hO hR) (kk := fun r928 t928 h928 => ?_)
      refine aw_aload_n G dL_law_931 rfl ?_
      refine aw_aload_b G dL_law_932 rfl ?_
      refine aw_iload_n G dL_law_933 rfl ?_
      refine aw_iconst G dL_law_934 ?_
      refine aw_iadd G dL_law_935 ?_
      refine aw_sld G hX dL_law_936 (by omega) (by omega) ?_
      refine cv_L_122 G dL_law_937 (c_X10_written (sR _ _) (OK.ms h928.2.2 hO)) (kk := fun r937 t937 h937 => ?_)
      obtain ⟨e1, hO2, hR2⟩ := fx_step (fx_written (sv xs (i + 1))) hO h928 h937
      refine aw_same (tgt := 1219) G dL_law_940 (by decide) e1 ?_
      exact nxt _ hO2 hR2
    by_cases s26 : z = 26
    · refine aw_tswIn (off := 913) (tgt := 945) G dL_law_32 (by omega) (by omega) (by omega) (by rw [s26]; rfl) (by decide) ?_
      refine aw_aload_n G dL_law_945 rfl ?_
      refine aw_aload_b G dL_law_946 rfl ?_
      refine aw_iload_n G dL_law_947 rfl ?_
      refine aw_iconst G dL_law_948 ?_
      refine aw_iadd G dL_law_949 ?_
      refine aw_sld G hX dL_law_950 (by omega) (by omega) ?_
      refine aw_aload_b G dL_law_951 rfl ?_
      refine aw_iload_n G dL_law_952 rfl ?_
      refine aw_iconst G dL_law_953 ?_
      refine aw_iadd G dL_law_954 ?_
      refine aw_sld G hX dL_law_955 (by omega) (by omega) ?_
      refine cv_L_123 G dL_law_956 (c_X9_list (α := σ) (sR _ _) (sR _ _) hO hR) (kk := fun r956 t956 h956 => ?_)
      refine aw_aload_n G dL_law_959 rfl ?_
      refine aw_aload_b G dL_law_960 rfl ?_
      refine aw_iload_n G dL_law_961 rfl ?_
      refine aw_iconst G dL_law_962 ?_
      refine aw_iadd G dL_law_963 ?_
      refine aw_sld G hX dL_law_964 (by omega) (by omega) ?_
      refine aw_aload_b G dL_law_965 rfl ?_
      refine aw_iload_n G dL_law_966 rfl ?_
      refine aw_iconst G dL_law_967 ?_
      refine aw_iadd G dL_law_968 ?_
      refine aw_sld G hX dL_law_969 (by omega) (by omega) ?_
      refine cv_L_126 G dL_law_970 (c_X10_list (sR _ _) (sR _ _)) (kk := fun r970 t970 h970 => ?_)
      obtain ⟨e1, hO2, hR2⟩ := fx_step (fx_list (sv xs (i + 1)) (sv xs (i + 2))) hO h956 ⟨h970.1, ME.e h970.2⟩
      refine aw_same (tgt := 1219) G dL_law_973 (by decide) e1 ?_
      exact nxt _ hO2 hR2
    by_cases s27 : z = 27
    · refine aw_tswIn (off := 946) (tgt := 978) G dL_law_32 (by omega) (by omega) (by omega) (by rw [s27]; rfl) (by decide) ?_
      refine aw_aload_n G dL_law_978 rfl ?_
      refine aw_aload_b G dL_law_979 rfl ?_
      refine aw_iload_n G dL_law_980 rfl ?_
      refine aw_iconst G dL_law_981 ?_
      refine aw_iadd G dL_law_982 ?_
      refine aw_sld G hX dL_law_983 (by omega) (by omega) ?_
      refine aw_aload_b G dL_law_984 rfl ?_
      refine aw_iload_n G dL_law_985 rfl ?_
      refine aw_iconst G dL_law_986 ?_
      refine aw_iadd G dL_law_987 ?_
      refine aw_sld G hX dL_law_988 (by omega) (by omega) ?_
      refine aw_aload_b G dL_law_989 rfl ?_
      refine aw_iload_n G dL_law_990 rfl ?_
      refine aw_iconst G dL_law_991 ?_
      refine aw_iadd G dL_law_992 ?_
      refine aw_sld G hX dL_law_993 (by omega) (by omega) ?_
      refine cv_L_127 G dL_law_994 (c_X9_put (α := σ) (sR _ _) (sR _ _) (sR _ _) hO hR) (kk := fun r994 t994 h994 => ?_)
      refine aw_aload_n G dL_law_997 rfl ?_
      refine aw_aload_b G dL_law_998 rfl ?_
      refine aw_iload_n G dL_law_999 rfl ?_
      refine aw_iconst G dL_law_1000 ?_
      refine aw_iadd G dL_law_1001 ?_
      refine aw_sld G hX dL_law_1002 (by omega) (by omega) ?_
      refine aw_aload_b G dL_law_1003 rfl ?_
      refine aw_iload_n G dL_law_1004 rfl ?_
      refine aw_iconst G dL_law_1005 ?_
      refine aw_iadd G dL_law_1006 ?_
      refine aw_sld G hX dL_law_1007 (by omega) (by omega) ?_
      refine aw_aload_b G dL_law_1008 rfl ?_
      refine aw_iload_n G dL_law_1009 rfl ?_
      refine aw_iconst G dL_law_1010 ?_
      refine aw_iadd G dL_law_1011 ?_
      refine aw_sld G hX dL_law_1012 (by omega) (by omega) ?_
      refine cv_L_130 G dL_law_1013 (c_X10_put (sR _ _) (sR _ _) (sR _ _) (OK.ms h994.2.2 hO)) (kk := fun r1013 t1013 h1013 => ?_)
      obtain ⟨e1, hO2, hR2⟩ := fx_step (fx_put (sv xs (i + 1)) (sv xs (i + 2)) (sv xs (i + 3)) (sR _ _)) hO h994 ⟨h1013.1, ME.e h1013.2⟩
      refine aw_same (tgt := 1219) G dL_law_1016 (by decide) e1 ?_
      exact nxt _ hO2 hR2
    by_cases s28 : z = 28
    · refine aw_tswIn (off := 989) (tgt := 1021) G dL_law_32 (by omega) (by omega) (by omega) (by rw [s28]; rfl) (by decide) ?_
      refine aw_aload_n G dL_law_1021 rfl ?_
      refine aw_aload_b G dL_law_1022 rfl ?_
      refine aw_iload_n G dL_law_1023 rfl ?_
      refine aw_iconst G dL_law_1024 ?_
      refine aw_iadd G dL_law_1025 ?_
      refine aw_sld G hX dL_law_1026 (by omega) (by omega) ?_
      refine aw_aload_b G dL_law_1027 rfl ?_
      refine aw_iload_n G dL_law_1028 rfl ?_
      refine aw_iconst G dL_law_1029 ?_
      refine aw_iadd G dL_law_1030 ?_
      refine aw_sld G hX dL_law_1031 (by omega) (by omega) ?_
      refine cv_L_131 G dL_law_1032 (c_X9_look (α := σ) (sR _ _) (sR _ _) hO hR) (kk := fun r1032 t1032 h1032 => ?_)
      refine aw_aload_n G dL_law_1035 rfl ?_
      refine aw_aload_b G dL_law_1036 rfl ?_
      refine aw_iload_n G dL_law_1037 rfl ?_
      refine aw_iconst G dL_law_1038 ?_
      refine aw_iadd G dL_law_1039 ?_
      refine aw_sld G hX dL_law_1040 (by omega) (by omega) ?_
      refine aw_aload_b G dL_law_1041 rfl ?_
      refine aw_iload_n G dL_law_1042 rfl ?_
      refine aw_iconst G dL_law_1043 ?_
      refine aw_iadd G dL_law_1044 ?_
      refine aw_sld G hX dL_law_1045 (by omega) (by omega) ?_
      refine cv_L_135 G dL_law_1046 (c_X10_look (sR _ _) (sR _ _) (OK.ms h1032.2.2 hO)) (kk := fun r1046 t1046 h1046 => ?_)
      obtain ⟨e1, hO2, hR2⟩ := fx_step (fx_look (sv xs (i + 1)) (sv xs (i + 2))) hO h1032 ⟨h1046.1, ME.e h1046.2⟩
      refine aw_lsame G dL_law_1049 e1 ?_
      refine aw_if_eq (tgt := 1219) G dL_law_1050 (by decide) (by decide) (fun _ => ?_) (fun c => absurd rfl c)
      exact nxt _ hO2 hR2
    by_cases s29 : z = 29
    · refine aw_tswIn (off := 1023) (tgt := 1055) G dL_law_32 (by omega) (by omega) (by omega) (by rw [s29]; rfl) (by decide) ?_
      refine aw_aload_n G dL_law_1055 rfl ?_
      refine aw_aload_b G dL_law_1056 rfl ?_
      refine aw_iload_n G dL_law_1057 rfl ?_
      refine aw_iconst G dL_law_1058 ?_
      refine aw_iadd G dL_law_1059 ?_
      refine aw_sld G hX dL_law_1060 (by omega) (by omega) ?_
      refine aw_aload_b G dL_law_1061 rfl ?_
      refine aw_iload_n G dL_law_1062 rfl ?_
      refine aw_iconst G dL_law_1063 ?_
      refine aw_iadd G dL_law_1064 ?_
      refine aw_sld G hX dL_law_1065 (by omega) (by omega) ?_
      refine cv_L_136 G dL_law_1066 (c_X9_lays (α := σ) (sR _ _) (sR _ _) hO hR) (kk := fun r1066 t1066 h1066 => ?_)
      refine aw_aload_n G dL_law_1069 rfl ?_
      refine aw_aload_b G dL_law_1070 rfl ?_
      refine aw_iload_n G dL_law_1071 rfl ?_
      refine aw_iconst G dL_law_1072 ?_
      refine aw_iadd G dL_law_1073 ?_
      refine aw_sld G hX dL_law_1074 (by omega) (by omega) ?_
      refine aw_aload_b G dL_law_1075 rfl ?_
      refine aw_iload_n G dL_law_1076 rfl ?_
      refine aw_iconst G dL_law_1077 ?_
      refine aw_iadd G dL_law_1078 ?_
      refine aw_sld G hX dL_law_1079 (by omega) (by omega) ?_
      refine cv_L_139 G dL_law_1080 (c_X10_lays (sR _ _) (sR _ _) (OK.ms h1066.2.2 hO)) (kk := fun r1080 t1080 h1080 => ?_)
      obtain ⟨e1, hO2, hR2⟩ := fx_step (fx_lays (sv xs (i + 1)) (sv xs (i + 2))) hO h1066 h1080
      refine aw_same (tgt := 1219) G dL_law_1083 (by decide) e1 ?_
      exact nxt _ hO2 hR2
    by_cases s30 : z = 30
    · refine aw_tswIn (off := 1056) (tgt := 1088) G dL_law_32 (by omega) (by omega) (by omega) (by rw [s30]; rfl) (by decide) ?_
      refine aw_aload_n G dL_law_1088 rfl ?_
      refine aw_aload_b G dL_law_1089 rfl ?_
      refine aw_iload_n G dL_law_1090 rfl ?_
      refine aw_iconst G dL_law_1091 ?_
      refine aw_iadd G dL_law_1092 ?_
      refine aw_sld G hX dL_law_1093 (by omega) (by omega) ?_
      refine cv_L_140 G dL_law_1094 (c_X9_judge (α := σ) (sR _ _) hO hR) (kk := fun r1094 t1094 h1094 => ?_)
      refine aw_aload_n G dL_law_1097 rfl ?_
      refine aw_aload_b G dL_law_1098 rfl ?_
      refine aw_iload_n G dL_law_1099 rfl ?_
      refine aw_iconst G dL_law_1100 ?_
      refine aw_iadd G dL_law_1101 ?_
      refine aw_sld G hX dL_law_1102 (by omega) (by omega) ?_
      refine cv_L_143 G dL_law_1103 (c_X10_judge (sR _ _) (OK.ms h1094.2.2 hO)) (kk := fun r1103 t1103 h1103 => ?_)
      obtain ⟨e1, hO2, hR2⟩ := fx_step (fx_judge (sv xs (i + 1))) hO h1094 h1103
      refine aw_same (tgt := 1219) G dL_law_1106 (by decide) e1 ?_
      exact nxt _ hO2 hR2
    by_cases s31 : z = 31
    · refine aw_tswIn (off := 1079) (tgt := 1111) G dL_law_32 (by omega) (by omega) (by omega) (by rw [s31]; rfl) (by decide) ?_
      refine aw_aload_n G dL_law_1111 rfl ?_
      refine aw_aload_b G dL_law_1112 rfl ?_
      refine aw_iload_n G dL_law_1113 rfl ?_
      refine aw_iconst G dL_law_1114 ?_
      refine aw_iadd G dL_law_1115 ?_
      refine aw_sld G hX dL_law_1116 (by omega) (by omega) ?_
      refine cv_L_144 G dL_law_1117 (c_X9_gives (α := σ) (sR _ _) hO hR) (kk := fun r1117 t1117 h1117 => ?_)
      refine aw_aload_n G dL_law_1120 rfl ?_
      refine aw_aload_b G dL_law_1121 rfl ?_
      refine aw_iload_n G dL_law_1122 rfl ?_
      refine aw_iconst G dL_law_1123 ?_
      refine aw_iadd G dL_law_1124 ?_
      refine aw_sld G hX dL_law_1125 (by omega) (by omega) ?_
      refine cv_L_147 G dL_law_1126 (c_X10_gives (sR _ _) (OK.ms h1117.2.2 hO)) (kk := fun r1126 t1126 h1126 => ?_)
      obtain ⟨e1, hO2, hR2⟩ := fx_step (fx_gives (sv xs (i + 1))) hO h1117 ⟨h1126.1, ME.e h1126.2⟩
      refine aw_same (tgt := 1219) G dL_law_1129 (by decide) e1 ?_
      exact nxt _ hO2 hR2
    by_cases s32 : z = 32
    · refine aw_tswIn (off := 1102) (tgt := 1134) G dL_law_32 (by omega) (by omega) (by omega) (by rw [s32]; rfl) (by decide) ?_
      refine aw_aload_n G dL_law_1134 rfl ?_
      refine aw_aload_b G dL_law_1135 rfl ?_
      refine aw_iload_n G dL_law_1136 rfl ?_
      refine aw_iconst G dL_law_1137 ?_
      refine aw_iadd G dL_law_1138 ?_
      refine aw_sld G hX dL_law_1139 (by omega) (by omega) ?_
      refine cv_L_148 G dL_law_1140 (c_X9_rules (α := σ) (sR _ _) hO hR) (kk := fun r1140 t1140 h1140 => ?_)
      refine aw_aload_n G dL_law_1143 rfl ?_
      refine aw_aload_b G dL_law_1144 rfl ?_
      refine aw_iload_n G dL_law_1145 rfl ?_
      refine aw_iconst G dL_law_1146 ?_
      refine aw_iadd G dL_law_1147 ?_
      refine aw_sld G hX dL_law_1148 (by omega) (by omega) ?_
      refine cv_L_151 G dL_law_1149 (c_X10_rules (sR _ _) (OK.ms h1140.2.2 hO)) (kk := fun r1149 t1149 h1149 => ?_)
      obtain ⟨e1, hO2, hR2⟩ := fx_step (fx_rules (sv xs (i + 1))) hO h1140 h1149
      refine aw_same (tgt := 1219) G dL_law_1152 (by decide) e1 ?_
      exact nxt _ hO2 hR2
    by_cases s33 : z = 33
    · refine aw_tswIn (off := 1125) (tgt := 1157) G dL_law_32 (by omega) (by omega) (by omega) (by rw [s33]; rfl) (by decide) ?_
      refine aw_aload_n G dL_law_1157 rfl ?_
      refine cv_L_152 G dL_law_1158 (c_X9_undo (α := σ)  hO hR) (kk := fun r1158 t1158 h1158 => ?_)
      refine aw_aload_n G dL_law_1161 rfl ?_
      refine cv_L_155 G dL_law_1162 (c_X10_undo  (OK.ms h1158.2.2 hO)) (kk := fun r1162 t1162 h1162 => ?_)
      obtain ⟨e1, hO2, hR2⟩ := fx_step (fx_undo) hO h1158 ⟨h1162.1, ME.e h1162.2⟩
      refine aw_same (tgt := 1219) G dL_law_1165 (by decide) e1 ?_
      exact nxt _ hO2 hR2
    by_cases s34 : z = 34
    · refine aw_tswIn (off := 1138) (tgt := 1170) G dL_law_32 (by omega) (by omega) (by omega) (by rw [s34]; rfl) (by decide) ?_
      refine aw_aload_n G dL_law_1170 rfl ?_
      refine cv_L_156 G dL_law_1171 (c_X9_image (α := σ)  hO hR) (kk := fun r1171 t1171 h1171 => ?_)
      refine aw_aload_n G dL_law_1174 rfl ?_
      refine cv_L_159 G dL_law_1175 (c_X10_image ) (kk := fun r1175 t1175 h1175 => ?_)
      obtain ⟨e1, hO2, hR2⟩ := fx_step (fx_image) hO h1171 ⟨h1175.1, ME.e h1175.2⟩
      refine aw_same (tgt := 1219) G dL_law_1178 (by decide) e1 ?_
      exact nxt _ hO2 hR2
    by_cases s35 : z = 35
    · refine aw_tswIn (off := 1151) (tgt := 1183) G dL_law_32 (by omega) (by omega) (by omega) (by rw [s35]; rfl) (by decide) ?_
      refine aw_aload_n G dL_law_1183 rfl ?_
      refine cv_L_160 G dL_law_1184 (c_X9_on (α := σ)  hO hR) (kk := fun r1184 t1184 h1184 => ?_)
      refine aw_aload_n G dL_law_1187 rfl ?_
      refine cv_L_163 G dL_law_1188 (c_X10_on  (OK.ms h1184.2.2 hO)) (kk := fun r1188 t1188 h1188 => ?_)
      obtain ⟨e1, hO2, hR2⟩ := fx_step (fx_on) hO h1184 ⟨h1188.1, ME.e h1188.2⟩
      refine aw_same (tgt := 1219) G dL_law_1191 (by decide) e1 ?_
      exact nxt _ hO2 hR2
    by_cases s36 : z = 36
    · refine aw_tswIn (off := 1164) (tgt := 1196) G dL_law_32 (by omega) (by omega) (by omega) (by rw [s36]; rfl) (by decide) ?_
      refine aw_aload_n G dL_law_1196 rfl ?_
      refine aw_aload_b G dL_law_1197 rfl ?_
      refine aw_iload_n G dL_law_1198 rfl ?_
      refine aw_iconst G dL_law_1199 ?_
      refine aw_iadd G dL_law_1200 ?_
      refine aw_sld G hX dL_law_1201 (by omega) (by omega) ?_
      refine cv_L_164 G dL_law_1202 (c_X9_count (α := σ) (sR _ _) hO hR) (kk := fun r1202 t1202 h1202 => ?_)
      refine aw_aload_n G dL_law_1205 rfl ?_
      refine aw_aload_b G dL_law_1206 rfl ?_
      refine aw_iload_n G dL_law_1207 rfl ?_
      refine aw_iconst G dL_law_1208 ?_
      refine aw_iadd G dL_law_1209 ?_
      refine aw_sld G hX dL_law_1210 (by omega) (by omega) ?_
      refine cv_L_167 G dL_law_1211 (c_X10_count (sR _ _) (OK.ms h1202.2.2 hO)) (kk := fun r1211 t1211 h1211 => ?_)
      obtain ⟨e1, hO2, hR2⟩ := fx_step (fx_count (sv xs (i + 1))) hO h1202 ⟨h1211.1, ME.e h1211.2⟩
      refine aw_same (tgt := 1219) G dL_law_1214 (by decide) e1 ?_
      exact nxt _ hO2 hR2
    refine aw_tswOut (tgt := 1219) G dL_law_32 (by omega) (by omega) (by decide) ?_
    exact nxt σ hO hR
