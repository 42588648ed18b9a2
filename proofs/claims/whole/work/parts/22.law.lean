/-! ===== the law: its script, its 37 cases, its loop ===== -/
theorem x_wid {F : Cx} {u v pc : Nat} {ls : List (Nat × Value)} {st : List Value} {S : St} (h : u ≤ v) (k : X F v pc ls st S) : X F u pc ls st S := by
  obtain ⟨p, l, e, R, s, m, args, below, meth, c, A, G, Q⟩ := F
  exact fun H locs la hP hD hS hl => W.widen (k := v) (n := 8 * v) h (by omega) (k H locs la hP hD hS hl)
/-- the script stands, outside the world -/
def Scr (F : Cx) (b L : Nat) (xs : Nat → Int32) : Prop := va_X b L xs F.2.2.2.2.1 F.2.2.2.2.1.heap ∧ b < F.2.2.2.2.1.heap.size ∧ ¬ F.2.2.2.2.2.2.2.2.2.2.1 b
theorem nI_ix {n : Nat} (h : n < 4096) : ix (nI n) = n := nI_clamp (by omega)
theorem x_scr {F : Cx} {u pc b L i kk : Nat} {xs : Nat → Int32} {ls : List (Nat × Value)} {rest : List Value} {S : St} {cc : ByteArray} {own : String} {k : Int32} (hF : Ok F cc own) (hX : Scr F b L xs) (hi : i + kk < L) (hL : L ≤ 2048) (hk : nI kk = k) (hd : decode cc pc = .ok (.iaload, 1)) (kc : X F u (pc + 1) ls (.int (xs (i + kk)) :: rest) S) : X F u pc ls (.int (nI i + k) :: .ref b :: rest) S := by
  obtain ⟨p, l, e, R, s, m, args, below, meth, c, A, G, Q⟩ := F
  obtain ⟨hx, hb, hown, hts, hE, hA, -⟩ := hF
  obtain ⟨h1, h2, h3⟩ := hX
  subst hk
  rw [nI_add]
  intro H locs la hP hD hS hl
  refine va_sld hx hb h1 h2 h3 hS (vp_in_nI hi (by omega)) hd ?_
  rw [show (nI (i + kk)).toNatClampNeg = i + kk from nI_clamp (by omega)]
  exact kc H locs la hP hD hS hl
theorem x_scr0 {F : Cx} {u pc b L i : Nat} {xs : Nat → Int32} {ls : List (Nat × Value)} {rest : List Value} {S : St} {cc : ByteArray} {own : String} (hF : Ok F cc own) (hX : Scr F b L xs) (hi : i < L) (hL : L ≤ 2048) (hd : decode cc pc = .ok (.iaload, 1)) (kc : X F u (pc + 1) ls (.int (xs i) :: rest) S) : X F u pc ls (.int (nI i) :: .ref b :: rest) S := by
  obtain ⟨p, l, e, R, s, m, args, below, meth, c, A, G, Q⟩ := F
  obtain ⟨hx, hb, hown, hts, hE, hA, -⟩ := hF
  obtain ⟨h1, h2, h3⟩ := hX
  intro H locs la hP hD hS hl
  refine va_sld hx hb h1 h2 h3 hS (vp_in_nI hi (by omega)) hd ?_
  rw [show (nI i).toNatClampNeg = i from nI_clamp (by omega)]
  exact kc H locs la hP hD hS hl
theorem x_slen {F : Cx} {u pc b L : Nat} {xs : Nat → Int32} {ls : List (Nat × Value)} {rest : List Value} {S : St} {cc : ByteArray} {own : String} (hF : Ok F cc own) (hX : Scr F b L xs) (hd : decode cc pc = .ok (.arraylength, 1)) (kc : X F u (pc + 1) ls (.int (nI L) :: rest) S) : X F u pc ls (.ref b :: rest) S := by
  obtain ⟨p, l, e, R, s, m, args, below, meth, c, A, G, Q⟩ := F
  obtain ⟨hx, hb, hown, hts, hE, hA, -⟩ := hF
  obtain ⟨h1, h2, h3⟩ := hX
  intro H locs la hP hD hS hl
  exact va_slen hx hb h1 h2 h3 hS hd (kc H locs la hP hD hS hl)
noncomputable def LS_0 (a b c : Int32) (S : St) : Option St :=
  ob (L_record a b c S) (fun k1 S1 => ob (X8_record a b c S1) (fun r2 S2 => ob (X8_thrown  S2) (fun r3 S3 => og (r3 = k1) (oi (k1 = 0) (og (lg_cmp (gl S3 90 0) r2.toInt64 = 0) (some S3)) (some S3)))))
set_option maxHeartbeats 4000000 in
set_option maxRecDepth 20000 in
theorem xL_case0 {F : Cx} {u U bb L i : Nat} {xs : Nat → Int32} (hF : Ok F cL_law RL) (hN : nLF F 7) (hR : RmF F 10 U) (hX : Scr F bb L xs) (hL : L ≤ 2048) (hi : i + 3 < L) (hu : u + 3 ≤ U) {S S9 : St} (h : LS_0 (xs (i + 1)) (xs (i + 2)) (xs (i + 3)) S = some S9) (kk : X F (u + 3) 2066 [(0, .ref bb), (1, .ref (gA F 0)), (2, .ref (gA F 75)), (3, .ref (gA F 90)), (4, .int (nI i))] [] S9) : X F u 200 [(0, .ref bb), (1, .ref (gA F 0)), (2, .ref (gA F 75)), (3, .ref (gA F 90)), (4, .int (nI i))] [] S := by
  unfold LS_0 at h
  refine x_aload_n hF dL_law_200 rfl rfl ?_
  refine x_aload_n hF dL_law_201 rfl rfl ?_
  refine x_iload hF dL_law_202 rfl ?_
  refine x_iconst (v := (1 : Int32)) hF dL_law_204 (by decide) ?_
  refine x_iadd hF dL_law_205 ?_
  refine x_scr (kk := 1) hF hX (by omega) hL (by decide) dL_law_206 ?_
  refine x_aload_n hF dL_law_207 rfl rfl ?_
  refine x_iload hF dL_law_208 rfl ?_
  refine x_iconst (v := (2 : Int32)) hF dL_law_210 (by decide) ?_
  refine x_iadd hF dL_law_211 ?_
  refine x_scr (kk := 2) hF hX (by omega) hL (by decide) dL_law_212 ?_
  refine x_aload_n hF dL_law_213 rfl rfl ?_
  refine x_iload hF dL_law_214 rfl ?_
  refine x_iconst (v := (3 : Int32)) hF dL_law_216 (by decide) ?_
  refine x_iadd hF dL_law_217 ?_
  refine x_scr (kk := 3) hF hX (by omega) hL (by decide) dL_law_218 ?_
  refine x_aload_n hF dL_law_219 rfl rfl ?_
  obtain ⟨k1, S1, hcall, h⟩ := ob_some h
  refine x_cW (n := 5) hF hN hR (cwL_record hF.tr hcall) tw_580 tw_579 tw_71 ⟨by decide, by decide, by decide⟩ (by decide) tw_578 ⟨by omega, by decide⟩ rfl rfl (Nat.le_of_ble_eq_true rfl) dL_law_220 ?_
  refine x_istore [(5, _), (0, _), (1, _), (2, _), (3, _), (4, _)] hF hN dL_law_223 (by decide) rfl ?_
  refine x_aload_n hF dL_law_225 rfl rfl ?_
  refine x_aload_n hF dL_law_226 rfl rfl ?_
  refine x_iload hF dL_law_227 rfl ?_
  refine x_iconst (v := (1 : Int32)) hF dL_law_229 (by decide) ?_
  refine x_iadd hF dL_law_230 ?_
  refine x_scr (kk := 1) hF hX (by omega) hL (by decide) dL_law_231 ?_
  refine x_aload_n hF dL_law_232 rfl rfl ?_
  refine x_iload hF dL_law_233 rfl ?_
  refine x_iconst (v := (2 : Int32)) hF dL_law_235 (by decide) ?_
  refine x_iadd hF dL_law_236 ?_
  refine x_scr (kk := 2) hF hX (by omega) hL (by decide) dL_law_237 ?_
  refine x_aload_n hF dL_law_238 rfl rfl ?_
  refine x_iload hF dL_law_239 rfl ?_
  refine x_iconst (v := (3 : Int32)) hF dL_law_241 (by decide) ?_
  refine x_iadd hF dL_law_242 ?_
  refine x_scr (kk := 3) hF hX (by omega) hL (by decide) dL_law_243 ?_
  obtain ⟨r2, S2, hcall, h⟩ := ob_some h
  refine x_cVi hF hN hR (ctX8_record hF.tr hcall) mwX8_record miX8_record sh75 ck7 (by decide) tw_1140 ⟨by omega, by decide⟩ rfl rfl (Nat.le_of_ble_eq_true rfl) dL_law_244 ?_
  refine x_istore [(6, _), (5, _), (0, _), (1, _), (2, _), (3, _), (4, _)] hF hN dL_law_247 (by decide) rfl ?_
  refine x_aload_n hF dL_law_249 rfl rfl ?_
  obtain ⟨r3, S3, hcall, h⟩ := ob_some h
  refine x_cVi hF hN hR (ctX8_thrown hF.tr hcall) mwX8_thrown miX8_thrown sh75 ck7 (by decide) tw_1136 ⟨by omega, by decide⟩ rfl rfl (Nat.le_of_ble_eq_true rfl) dL_law_250 ?_
  refine x_iload hF dL_law_253 rfl ?_
  obtain ⟨hg, h⟩ := og_some h
  refine x_icmp_eq (tgt := 260) hF dL_law_255 (by decide) (fun _ => ?_) (fun hc => absurd hg hc)
  refine x_iload hF dL_law_260 rfl ?_
  refine x_if_ne (tgt := 277) hF dL_law_262 (by decide) (fun hc => ?_) (fun hc => ?_)
  · have h := oi_neg hc h
    refine x_goto (tgt := 2066) hF dL_law_277 (by decide) ?_
    obtain rfl := Option.some.inj h
    exact x_wid (by omega) (x_sub kk ⟨rfl, rfl, rfl, rfl, rfl, trivial⟩)
  have h := oi_pos hc h
  refine x_aload_n hF dL_law_265 rfl rfl ?_
  refine x_iconst (v := (0 : Int32)) hF dL_law_266 (by decide) ?_
  refine x_lald (j := 0) hF sh90 (by decide) (by decide) (by decide) dL_law_267 ?_
  refine x_iload hF dL_law_268 rfl ?_
  refine x_i2l hF dL_law_270 ?_
  refine x_lcmp hF dL_law_271 ?_
  obtain ⟨hg, h⟩ := og_some h
  refine x_if_eq (tgt := 277) hF dL_law_272 (by decide) (fun _ => ?_) (fun hc => absurd hg hc)
  refine x_goto (tgt := 2066) hF dL_law_277 (by decide) ?_
  obtain rfl := Option.some.inj h
  exact x_wid (by omega) (x_sub kk ⟨rfl, rfl, rfl, rfl, rfl, trivial⟩)
noncomputable def LS_1 (a b c : Int32) (S : St) : Option St :=
  ob (L_erase a S) (fun k1 S1 => ob (X8_erase a S1) (fun r2 S2 => ob (X8_thrown  S2) (fun r3 S3 => og (r3 = k1) (oi (k1 = 0) (og (lg_cmp (gl S3 90 0) r2.toInt64 = 0) (some S3)) (some S3)))))
set_option maxHeartbeats 4000000 in
set_option maxRecDepth 20000 in
theorem xL_case1 {F : Cx} {u U bb L i : Nat} {xs : Nat → Int32} (hF : Ok F cL_law RL) (hN : nLF F 7) (hR : RmF F 10 U) (hX : Scr F bb L xs) (hL : L ≤ 2048) (hi : i + 3 < L) (hu : u + 3 ≤ U) {S S9 : St} (h : LS_1 (xs (i + 1)) (xs (i + 2)) (xs (i + 3)) S = some S9) (kk : X F (u + 3) 2066 [(0, .ref bb), (1, .ref (gA F 0)), (2, .ref (gA F 75)), (3, .ref (gA F 90)), (4, .int (nI i))] [] S9) : X F u 280 [(0, .ref bb), (1, .ref (gA F 0)), (2, .ref (gA F 75)), (3, .ref (gA F 90)), (4, .int (nI i))] [] S := by
  unfold LS_1 at h
  refine x_aload_n hF dL_law_280 rfl rfl ?_
  refine x_aload_n hF dL_law_281 rfl rfl ?_
  refine x_iload hF dL_law_282 rfl ?_
  refine x_iconst (v := (1 : Int32)) hF dL_law_284 (by decide) ?_
  refine x_iadd hF dL_law_285 ?_
  refine x_scr (kk := 1) hF hX (by omega) hL (by decide) dL_law_286 ?_
  refine x_aload_n hF dL_law_287 rfl rfl ?_
  obtain ⟨k1, S1, hcall, h⟩ := ob_some h
  refine x_cW (n := 3) hF hN hR (cwL_erase hF.tr hcall) tw_722 tw_721 tw_71 ⟨by decide, by decide, by decide⟩ (by decide) tw_720 ⟨by omega, by decide⟩ rfl rfl (Nat.le_of_ble_eq_true rfl) dL_law_288 ?_
  refine x_istore [(5, _), (0, _), (1, _), (2, _), (3, _), (4, _)] hF hN dL_law_291 (by decide) rfl ?_
  refine x_aload_n hF dL_law_293 rfl rfl ?_
  refine x_aload_n hF dL_law_294 rfl rfl ?_
  refine x_iload hF dL_law_295 rfl ?_
  refine x_iconst (v := (1 : Int32)) hF dL_law_297 (by decide) ?_
  refine x_iadd hF dL_law_298 ?_
  refine x_scr (kk := 1) hF hX (by omega) hL (by decide) dL_law_299 ?_
  obtain ⟨r2, S2, hcall, h⟩ := ob_some h
  refine x_cVi hF hN hR (ctX8_erase hF.tr hcall) mwX8_erase miX8_erase sh75 ck7 (by decide) tw_1170 ⟨by omega, by decide⟩ rfl rfl (Nat.le_of_ble_eq_true rfl) dL_law_300 ?_
  refine x_istore [(6, _), (5, _), (0, _), (1, _), (2, _), (3, _), (4, _)] hF hN dL_law_303 (by decide) rfl ?_
  refine x_aload_n hF dL_law_305 rfl rfl ?_
  obtain ⟨r3, S3, hcall, h⟩ := ob_some h
  refine x_cVi hF hN hR (ctX8_thrown hF.tr hcall) mwX8_thrown miX8_thrown sh75 ck7 (by decide) tw_1136 ⟨by omega, by decide⟩ rfl rfl (Nat.le_of_ble_eq_true rfl) dL_law_306 ?_
  refine x_iload hF dL_law_309 rfl ?_
  obtain ⟨hg, h⟩ := og_some h
  refine x_icmp_eq (tgt := 316) hF dL_law_311 (by decide) (fun _ => ?_) (fun hc => absurd hg hc)
  refine x_iload hF dL_law_316 rfl ?_
  refine x_if_ne (tgt := 333) hF dL_law_318 (by decide) (fun hc => ?_) (fun hc => ?_)
  · have h := oi_neg hc h
    refine x_goto (tgt := 2066) hF dL_law_333 (by decide) ?_
    obtain rfl := Option.some.inj h
    exact x_wid (by omega) (x_sub kk ⟨rfl, rfl, rfl, rfl, rfl, trivial⟩)
  have h := oi_pos hc h
  refine x_aload_n hF dL_law_321 rfl rfl ?_
  refine x_iconst (v := (0 : Int32)) hF dL_law_322 (by decide) ?_
  refine x_lald (j := 0) hF sh90 (by decide) (by decide) (by decide) dL_law_323 ?_
  refine x_iload hF dL_law_324 rfl ?_
  refine x_i2l hF dL_law_326 ?_
  refine x_lcmp hF dL_law_327 ?_
  obtain ⟨hg, h⟩ := og_some h
  refine x_if_eq (tgt := 333) hF dL_law_328 (by decide) (fun _ => ?_) (fun hc => absurd hg hc)
  refine x_goto (tgt := 2066) hF dL_law_333 (by decide) ?_
  obtain rfl := Option.some.inj h
  exact x_wid (by omega) (x_sub kk ⟨rfl, rfl, rfl, rfl, rfl, trivial⟩)
noncomputable def LS_2 (a b c : Int32) (S : St) : Option St :=
  ob (X7_packets  S) (fun r1 S1 => ob (X8_packets  S1) (fun r2 S2 => og (r1 = r2) (some S2)))
set_option maxHeartbeats 4000000 in
set_option maxRecDepth 20000 in
theorem xL_case2 {F : Cx} {u U bb L i : Nat} {xs : Nat → Int32} (hF : Ok F cL_law RL) (hN : nLF F 7) (hR : RmF F 10 U) (hX : Scr F bb L xs) (hL : L ≤ 2048) (hi : i + 3 < L) (hu : u + 3 ≤ U) {S S9 : St} (h : LS_2 (xs (i + 1)) (xs (i + 2)) (xs (i + 3)) S = some S9) (kk : X F (u + 3) 2066 [(0, .ref bb), (1, .ref (gA F 0)), (2, .ref (gA F 75)), (3, .ref (gA F 90)), (4, .int (nI i))] [] S9) : X F u 336 [(0, .ref bb), (1, .ref (gA F 0)), (2, .ref (gA F 75)), (3, .ref (gA F 90)), (4, .int (nI i))] [] S := by
  unfold LS_2 at h
  refine x_aload_n hF dL_law_336 rfl rfl ?_
  obtain ⟨r1, S1, hcall, h⟩ := ob_some h
  refine x_cVi hF hN hR (ctX7_packets hF.tr hcall) mwX7_packets miX7_packets sh0 ck6 (by decide) tw_317 ⟨by omega, by decide⟩ rfl rfl (Nat.le_of_ble_eq_true rfl) dL_law_337 ?_
  refine x_aload_n hF dL_law_340 rfl rfl ?_
  obtain ⟨r2, S2, hcall, h⟩ := ob_some h
  refine x_cVi hF hN hR (ctX8_packets hF.tr hcall) mwX8_packets miX8_packets sh75 ck7 (by decide) tw_1178 ⟨by omega, by decide⟩ rfl rfl (Nat.le_of_ble_eq_true rfl) dL_law_341 ?_
  obtain ⟨hg, h⟩ := og_some h
  refine x_icmp_eq (tgt := 2066) hF dL_law_344 (by decide) (fun _ => ?_) (fun hc => absurd hg hc)
  obtain rfl := Option.some.inj h
  exact x_wid (by omega) (x_sub kk ⟨rfl, rfl, rfl, rfl, rfl, trivial⟩)
noncomputable def LS_3 (a b c : Int32) (S : St) : Option St :=
  ob (L_packet a b S) (fun k1 S1 => ob (X8_packet a b S1) (fun r2 S2 => ob (X8_thrown  S2) (fun r3 S3 => og (r3 = k1) (oi (k1 = 0) (og (lg_cmp (gl S3 90 0) r2.toInt64 = 0) (some S3)) (some S3)))))
set_option maxHeartbeats 4000000 in
set_option maxRecDepth 20000 in
theorem xL_case3 {F : Cx} {u U bb L i : Nat} {xs : Nat → Int32} (hF : Ok F cL_law RL) (hN : nLF F 7) (hR : RmF F 10 U) (hX : Scr F bb L xs) (hL : L ≤ 2048) (hi : i + 3 < L) (hu : u + 3 ≤ U) {S S9 : St} (h : LS_3 (xs (i + 1)) (xs (i + 2)) (xs (i + 3)) S = some S9) (kk : X F (u + 3) 2066 [(0, .ref bb), (1, .ref (gA F 0)), (2, .ref (gA F 75)), (3, .ref (gA F 90)), (4, .int (nI i))] [] S9) : X F u 349 [(0, .ref bb), (1, .ref (gA F 0)), (2, .ref (gA F 75)), (3, .ref (gA F 90)), (4, .int (nI i))] [] S := by
  unfold LS_3 at h
  refine x_aload_n hF dL_law_349 rfl rfl ?_
  refine x_aload_n hF dL_law_350 rfl rfl ?_
  refine x_iload hF dL_law_351 rfl ?_
  refine x_iconst (v := (1 : Int32)) hF dL_law_353 (by decide) ?_
  refine x_iadd hF dL_law_354 ?_
  refine x_scr (kk := 1) hF hX (by omega) hL (by decide) dL_law_355 ?_
  refine x_aload_n hF dL_law_356 rfl rfl ?_
  refine x_iload hF dL_law_357 rfl ?_
  refine x_iconst (v := (2 : Int32)) hF dL_law_359 (by decide) ?_
  refine x_iadd hF dL_law_360 ?_
  refine x_scr (kk := 2) hF hX (by omega) hL (by decide) dL_law_361 ?_
  refine x_aload_n hF dL_law_362 rfl rfl ?_
  obtain ⟨k1, S1, hcall, h⟩ := ob_some h
  refine x_cW (n := 4) hF hN hR (cwL_packet hF.tr hcall) tw_738 tw_737 tw_71 ⟨by decide, by decide, by decide⟩ (by decide) tw_736 ⟨by omega, by decide⟩ rfl rfl (Nat.le_of_ble_eq_true rfl) dL_law_363 ?_
  refine x_istore [(5, _), (0, _), (1, _), (2, _), (3, _), (4, _)] hF hN dL_law_366 (by decide) rfl ?_
  refine x_aload_n hF dL_law_368 rfl rfl ?_
  refine x_aload_n hF dL_law_369 rfl rfl ?_
  refine x_iload hF dL_law_370 rfl ?_
  refine x_iconst (v := (1 : Int32)) hF dL_law_372 (by decide) ?_
  refine x_iadd hF dL_law_373 ?_
  refine x_scr (kk := 1) hF hX (by omega) hL (by decide) dL_law_374 ?_
  refine x_aload_n hF dL_law_375 rfl rfl ?_
  refine x_iload hF dL_law_376 rfl ?_
  refine x_iconst (v := (2 : Int32)) hF dL_law_378 (by decide) ?_
  refine x_iadd hF dL_law_379 ?_
  refine x_scr (kk := 2) hF hX (by omega) hL (by decide) dL_law_380 ?_
  obtain ⟨r2, S2, hcall, h⟩ := ob_some h
  refine x_cVi hF hN hR (ctX8_packet hF.tr hcall) mwX8_packet miX8_packet sh75 ck7 (by decide) tw_1182 ⟨by omega, by decide⟩ rfl rfl (Nat.le_of_ble_eq_true rfl) dL_law_381 ?_
  refine x_istore [(6, _), (5, _), (0, _), (1, _), (2, _), (3, _), (4, _)] hF hN dL_law_384 (by decide) rfl ?_
  refine x_aload_n hF dL_law_386 rfl rfl ?_
  obtain ⟨r3, S3, hcall, h⟩ := ob_some h
  refine x_cVi hF hN hR (ctX8_thrown hF.tr hcall) mwX8_thrown miX8_thrown sh75 ck7 (by decide) tw_1136 ⟨by omega, by decide⟩ rfl rfl (Nat.le_of_ble_eq_true rfl) dL_law_387 ?_
  refine x_iload hF dL_law_390 rfl ?_
  obtain ⟨hg, h⟩ := og_some h
  refine x_icmp_eq (tgt := 397) hF dL_law_392 (by decide) (fun _ => ?_) (fun hc => absurd hg hc)
  refine x_iload hF dL_law_397 rfl ?_
  refine x_if_ne (tgt := 414) hF dL_law_399 (by decide) (fun hc => ?_) (fun hc => ?_)
  · have h := oi_neg hc h
    refine x_goto (tgt := 2066) hF dL_law_414 (by decide) ?_
    obtain rfl := Option.some.inj h
    exact x_wid (by omega) (x_sub kk ⟨rfl, rfl, rfl, rfl, rfl, trivial⟩)
  have h := oi_pos hc h
  refine x_aload_n hF dL_law_402 rfl rfl ?_
  refine x_iconst (v := (0 : Int32)) hF dL_law_403 (by decide) ?_
  refine x_lald (j := 0) hF sh90 (by decide) (by decide) (by decide) dL_law_404 ?_
  refine x_iload hF dL_law_405 rfl ?_
  refine x_i2l hF dL_law_407 ?_
  refine x_lcmp hF dL_law_408 ?_
  obtain ⟨hg, h⟩ := og_some h
  refine x_if_eq (tgt := 414) hF dL_law_409 (by decide) (fun _ => ?_) (fun hc => absurd hg hc)
  refine x_goto (tgt := 2066) hF dL_law_414 (by decide) ?_
  obtain rfl := Option.some.inj h
  exact x_wid (by omega) (x_sub kk ⟨rfl, rfl, rfl, rfl, rfl, trivial⟩)
noncomputable def LS_4 (a b c : Int32) (S : St) : Option St :=
  ob (L_setCapacity a S) (fun k1 S1 => ob (X8_setCapacity a S1) (fun r2 S2 => ob (X8_thrown  S2) (fun r3 S3 => og (r3 = k1) (oi (k1 = 0) (og (lg_cmp (gl S3 90 0) r2.toInt64 = 0) (some S3)) (some S3)))))
set_option maxHeartbeats 4000000 in
set_option maxRecDepth 20000 in
theorem xL_case4 {F : Cx} {u U bb L i : Nat} {xs : Nat → Int32} (hF : Ok F cL_law RL) (hN : nLF F 7) (hR : RmF F 10 U) (hX : Scr F bb L xs) (hL : L ≤ 2048) (hi : i + 3 < L) (hu : u + 3 ≤ U) {S S9 : St} (h : LS_4 (xs (i + 1)) (xs (i + 2)) (xs (i + 3)) S = some S9) (kk : X F (u + 3) 2066 [(0, .ref bb), (1, .ref (gA F 0)), (2, .ref (gA F 75)), (3, .ref (gA F 90)), (4, .int (nI i))] [] S9) : X F u 417 [(0, .ref bb), (1, .ref (gA F 0)), (2, .ref (gA F 75)), (3, .ref (gA F 90)), (4, .int (nI i))] [] S := by
  unfold LS_4 at h
  refine x_aload_n hF dL_law_417 rfl rfl ?_
  refine x_aload_n hF dL_law_418 rfl rfl ?_
  refine x_iload hF dL_law_419 rfl ?_
  refine x_iconst (v := (1 : Int32)) hF dL_law_421 (by decide) ?_
  refine x_iadd hF dL_law_422 ?_
  refine x_scr (kk := 1) hF hX (by omega) hL (by decide) dL_law_423 ?_
  refine x_aload_n hF dL_law_424 rfl rfl ?_
  obtain ⟨k1, S1, hcall, h⟩ := ob_some h
  refine x_cW (n := 3) hF hN hR (cwL_setCapacity hF.tr hcall) tw_746 tw_745 tw_71 ⟨by decide, by decide, by decide⟩ (by decide) tw_744 ⟨by omega, by decide⟩ rfl rfl (Nat.le_of_ble_eq_true rfl) dL_law_425 ?_
  refine x_istore [(5, _), (0, _), (1, _), (2, _), (3, _), (4, _)] hF hN dL_law_428 (by decide) rfl ?_
  refine x_aload_n hF dL_law_430 rfl rfl ?_
  refine x_aload_n hF dL_law_431 rfl rfl ?_
  refine x_iload hF dL_law_432 rfl ?_
  refine x_iconst (v := (1 : Int32)) hF dL_law_434 (by decide) ?_
  refine x_iadd hF dL_law_435 ?_
  refine x_scr (kk := 1) hF hX (by omega) hL (by decide) dL_law_436 ?_
  obtain ⟨r2, S2, hcall, h⟩ := ob_some h
  refine x_cVi hF hN hR (ctX8_setCapacity hF.tr hcall) mwX8_setCapacity miX8_setCapacity sh75 ck7 (by decide) tw_1186 ⟨by omega, by decide⟩ rfl rfl (Nat.le_of_ble_eq_true rfl) dL_law_437 ?_
  refine x_istore [(6, _), (5, _), (0, _), (1, _), (2, _), (3, _), (4, _)] hF hN dL_law_440 (by decide) rfl ?_
  refine x_aload_n hF dL_law_442 rfl rfl ?_
  obtain ⟨r3, S3, hcall, h⟩ := ob_some h
  refine x_cVi hF hN hR (ctX8_thrown hF.tr hcall) mwX8_thrown miX8_thrown sh75 ck7 (by decide) tw_1136 ⟨by omega, by decide⟩ rfl rfl (Nat.le_of_ble_eq_true rfl) dL_law_443 ?_
  refine x_iload hF dL_law_446 rfl ?_
  obtain ⟨hg, h⟩ := og_some h
  refine x_icmp_eq (tgt := 453) hF dL_law_448 (by decide) (fun _ => ?_) (fun hc => absurd hg hc)
  refine x_iload hF dL_law_453 rfl ?_
  refine x_if_ne (tgt := 470) hF dL_law_455 (by decide) (fun hc => ?_) (fun hc => ?_)
  · have h := oi_neg hc h
    refine x_goto (tgt := 2066) hF dL_law_470 (by decide) ?_
    obtain rfl := Option.some.inj h
    exact x_wid (by omega) (x_sub kk ⟨rfl, rfl, rfl, rfl, rfl, trivial⟩)
  have h := oi_pos hc h
  refine x_aload_n hF dL_law_458 rfl rfl ?_
  refine x_iconst (v := (0 : Int32)) hF dL_law_459 (by decide) ?_
  refine x_lald (j := 0) hF sh90 (by decide) (by decide) (by decide) dL_law_460 ?_
  refine x_iload hF dL_law_461 rfl ?_
  refine x_i2l hF dL_law_463 ?_
  refine x_lcmp hF dL_law_464 ?_
  obtain ⟨hg, h⟩ := og_some h
  refine x_if_eq (tgt := 470) hF dL_law_465 (by decide) (fun _ => ?_) (fun hc => absurd hg hc)
  refine x_goto (tgt := 2066) hF dL_law_470 (by decide) ?_
  obtain rfl := Option.some.inj h
  exact x_wid (by omega) (x_sub kk ⟨rfl, rfl, rfl, rfl, rfl, trivial⟩)
noncomputable def LS_5 (a b c : Int32) (S : St) : Option St :=
  ob (L_setRate a S) (fun k1 S1 => ob (X8_setRate a S1) (fun r2 S2 => ob (X8_thrown  S2) (fun r3 S3 => og (r3 = k1) (oi (k1 = 0) (og (lg_cmp (gl S3 90 0) r2.toInt64 = 0) (some S3)) (some S3)))))
set_option maxHeartbeats 4000000 in
set_option maxRecDepth 20000 in
theorem xL_case5 {F : Cx} {u U bb L i : Nat} {xs : Nat → Int32} (hF : Ok F cL_law RL) (hN : nLF F 7) (hR : RmF F 10 U) (hX : Scr F bb L xs) (hL : L ≤ 2048) (hi : i + 3 < L) (hu : u + 3 ≤ U) {S S9 : St} (h : LS_5 (xs (i + 1)) (xs (i + 2)) (xs (i + 3)) S = some S9) (kk : X F (u + 3) 2066 [(0, .ref bb), (1, .ref (gA F 0)), (2, .ref (gA F 75)), (3, .ref (gA F 90)), (4, .int (nI i))] [] S9) : X F u 473 [(0, .ref bb), (1, .ref (gA F 0)), (2, .ref (gA F 75)), (3, .ref (gA F 90)), (4, .int (nI i))] [] S := by
  unfold LS_5 at h
  refine x_aload_n hF dL_law_473 rfl rfl ?_
  refine x_aload_n hF dL_law_474 rfl rfl ?_
  refine x_iload hF dL_law_475 rfl ?_
  refine x_iconst (v := (1 : Int32)) hF dL_law_477 (by decide) ?_
  refine x_iadd hF dL_law_478 ?_
  refine x_scr (kk := 1) hF hX (by omega) hL (by decide) dL_law_479 ?_
  refine x_aload_n hF dL_law_480 rfl rfl ?_
  obtain ⟨k1, S1, hcall, h⟩ := ob_some h
  refine x_cW (n := 3) hF hN hR (cwL_setRate hF.tr hcall) tw_765 tw_764 tw_71 ⟨by decide, by decide, by decide⟩ (by decide) tw_763 ⟨by omega, by decide⟩ rfl rfl (Nat.le_of_ble_eq_true rfl) dL_law_481 ?_
  refine x_istore [(5, _), (0, _), (1, _), (2, _), (3, _), (4, _)] hF hN dL_law_484 (by decide) rfl ?_
  refine x_aload_n hF dL_law_486 rfl rfl ?_
  refine x_aload_n hF dL_law_487 rfl rfl ?_
  refine x_iload hF dL_law_488 rfl ?_
  refine x_iconst (v := (1 : Int32)) hF dL_law_490 (by decide) ?_
  refine x_iadd hF dL_law_491 ?_
  refine x_scr (kk := 1) hF hX (by omega) hL (by decide) dL_law_492 ?_
  obtain ⟨r2, S2, hcall, h⟩ := ob_some h
  refine x_cVi hF hN hR (ctX8_setRate hF.tr hcall) mwX8_setRate miX8_setRate sh75 ck7 (by decide) tw_1207 ⟨by omega, by decide⟩ rfl rfl (Nat.le_of_ble_eq_true rfl) dL_law_493 ?_
  refine x_istore [(6, _), (5, _), (0, _), (1, _), (2, _), (3, _), (4, _)] hF hN dL_law_496 (by decide) rfl ?_
  refine x_aload_n hF dL_law_498 rfl rfl ?_
  obtain ⟨r3, S3, hcall, h⟩ := ob_some h
  refine x_cVi hF hN hR (ctX8_thrown hF.tr hcall) mwX8_thrown miX8_thrown sh75 ck7 (by decide) tw_1136 ⟨by omega, by decide⟩ rfl rfl (Nat.le_of_ble_eq_true rfl) dL_law_499 ?_
  refine x_iload hF dL_law_502 rfl ?_
  obtain ⟨hg, h⟩ := og_some h
  refine x_icmp_eq (tgt := 509) hF dL_law_504 (by decide) (fun _ => ?_) (fun hc => absurd hg hc)
  refine x_iload hF dL_law_509 rfl ?_
  refine x_if_ne (tgt := 526) hF dL_law_511 (by decide) (fun hc => ?_) (fun hc => ?_)
  · have h := oi_neg hc h
    refine x_goto (tgt := 2066) hF dL_law_526 (by decide) ?_
    obtain rfl := Option.some.inj h
    exact x_wid (by omega) (x_sub kk ⟨rfl, rfl, rfl, rfl, rfl, trivial⟩)
  have h := oi_pos hc h
  refine x_aload_n hF dL_law_514 rfl rfl ?_
  refine x_iconst (v := (0 : Int32)) hF dL_law_515 (by decide) ?_
  refine x_lald (j := 0) hF sh90 (by decide) (by decide) (by decide) dL_law_516 ?_
  refine x_iload hF dL_law_517 rfl ?_
  refine x_i2l hF dL_law_519 ?_
  refine x_lcmp hF dL_law_520 ?_
  obtain ⟨hg, h⟩ := og_some h
  refine x_if_eq (tgt := 526) hF dL_law_521 (by decide) (fun _ => ?_) (fun hc => absurd hg hc)
  refine x_goto (tgt := 2066) hF dL_law_526 (by decide) ?_
  obtain rfl := Option.some.inj h
  exact x_wid (by omega) (x_sub kk ⟨rfl, rfl, rfl, rfl, rfl, trivial⟩)
noncomputable def LS_6 (a b c : Int32) (S : St) : Option St :=
  ob (L_setPolicy a S) (fun k1 S1 => ob (X8_setPolicy a S1) (fun r2 S2 => ob (X8_thrown  S2) (fun r3 S3 => og (r3 = k1) (oi (k1 = 0) (og (lg_cmp (gl S3 90 0) r2.toInt64 = 0) (some S3)) (some S3)))))
set_option maxHeartbeats 4000000 in
set_option maxRecDepth 20000 in
theorem xL_case6 {F : Cx} {u U bb L i : Nat} {xs : Nat → Int32} (hF : Ok F cL_law RL) (hN : nLF F 7) (hR : RmF F 10 U) (hX : Scr F bb L xs) (hL : L ≤ 2048) (hi : i + 3 < L) (hu : u + 3 ≤ U) {S S9 : St} (h : LS_6 (xs (i + 1)) (xs (i + 2)) (xs (i + 3)) S = some S9) (kk : X F (u + 3) 2066 [(0, .ref bb), (1, .ref (gA F 0)), (2, .ref (gA F 75)), (3, .ref (gA F 90)), (4, .int (nI i))] [] S9) : X F u 529 [(0, .ref bb), (1, .ref (gA F 0)), (2, .ref (gA F 75)), (3, .ref (gA F 90)), (4, .int (nI i))] [] S := by
  unfold LS_6 at h
  refine x_aload_n hF dL_law_529 rfl rfl ?_
  refine x_aload_n hF dL_law_530 rfl rfl ?_
  refine x_iload hF dL_law_531 rfl ?_
  refine x_iconst (v := (1 : Int32)) hF dL_law_533 (by decide) ?_
  refine x_iadd hF dL_law_534 ?_
  refine x_scr (kk := 1) hF hX (by omega) hL (by decide) dL_law_535 ?_
  refine x_aload_n hF dL_law_536 rfl rfl ?_
  obtain ⟨k1, S1, hcall, h⟩ := ob_some h
  refine x_cW (n := 3) hF hN hR (cwL_setPolicy hF.tr hcall) tw_772 tw_771 tw_71 ⟨by decide, by decide, by decide⟩ (by decide) tw_770 ⟨by omega, by decide⟩ rfl rfl (Nat.le_of_ble_eq_true rfl) dL_law_537 ?_
  refine x_istore [(5, _), (0, _), (1, _), (2, _), (3, _), (4, _)] hF hN dL_law_540 (by decide) rfl ?_
  refine x_aload_n hF dL_law_542 rfl rfl ?_
  refine x_aload_n hF dL_law_543 rfl rfl ?_
  refine x_iload hF dL_law_544 rfl ?_
  refine x_iconst (v := (1 : Int32)) hF dL_law_546 (by decide) ?_
  refine x_iadd hF dL_law_547 ?_
  refine x_scr (kk := 1) hF hX (by omega) hL (by decide) dL_law_548 ?_
  obtain ⟨r2, S2, hcall, h⟩ := ob_some h
  refine x_cVi hF hN hR (ctX8_setPolicy hF.tr hcall) mwX8_setPolicy miX8_setPolicy sh75 ck7 (by decide) tw_1211 ⟨by omega, by decide⟩ rfl rfl (Nat.le_of_ble_eq_true rfl) dL_law_549 ?_
  refine x_istore [(6, _), (5, _), (0, _), (1, _), (2, _), (3, _), (4, _)] hF hN dL_law_552 (by decide) rfl ?_
  refine x_aload_n hF dL_law_554 rfl rfl ?_
  obtain ⟨r3, S3, hcall, h⟩ := ob_some h
  refine x_cVi hF hN hR (ctX8_thrown hF.tr hcall) mwX8_thrown miX8_thrown sh75 ck7 (by decide) tw_1136 ⟨by omega, by decide⟩ rfl rfl (Nat.le_of_ble_eq_true rfl) dL_law_555 ?_
  refine x_iload hF dL_law_558 rfl ?_
  obtain ⟨hg, h⟩ := og_some h
  refine x_icmp_eq (tgt := 565) hF dL_law_560 (by decide) (fun _ => ?_) (fun hc => absurd hg hc)
  refine x_iload hF dL_law_565 rfl ?_
  refine x_if_ne (tgt := 582) hF dL_law_567 (by decide) (fun hc => ?_) (fun hc => ?_)
  · have h := oi_neg hc h
    refine x_goto (tgt := 2066) hF dL_law_582 (by decide) ?_
    obtain rfl := Option.some.inj h
    exact x_wid (by omega) (x_sub kk ⟨rfl, rfl, rfl, rfl, rfl, trivial⟩)
  have h := oi_pos hc h
  refine x_aload_n hF dL_law_570 rfl rfl ?_
  refine x_iconst (v := (0 : Int32)) hF dL_law_571 (by decide) ?_
  refine x_lald (j := 0) hF sh90 (by decide) (by decide) (by decide) dL_law_572 ?_
  refine x_iload hF dL_law_573 rfl ?_
  refine x_i2l hF dL_law_575 ?_
  refine x_lcmp hF dL_law_576 ?_
  obtain ⟨hg, h⟩ := og_some h
  refine x_if_eq (tgt := 582) hF dL_law_577 (by decide) (fun _ => ?_) (fun hc => absurd hg hc)
  refine x_goto (tgt := 2066) hF dL_law_582 (by decide) ?_
  obtain rfl := Option.some.inj h
  exact x_wid (by omega) (x_sub kk ⟨rfl, rfl, rfl, rfl, rfl, trivial⟩)
noncomputable def LS_7 (a b c : Int32) (S : St) : Option St :=
  ob (L_setScheduler a S) (fun k1 S1 => ob (X8_setScheduler a S1) (fun r2 S2 => ob (X8_thrown  S2) (fun r3 S3 => og (r3 = k1) (oi (k1 = 0) (og (lg_cmp (gl S3 90 0) r2.toInt64 = 0) (some S3)) (some S3)))))
set_option maxHeartbeats 4000000 in
set_option maxRecDepth 20000 in
theorem xL_case7 {F : Cx} {u U bb L i : Nat} {xs : Nat → Int32} (hF : Ok F cL_law RL) (hN : nLF F 7) (hR : RmF F 10 U) (hX : Scr F bb L xs) (hL : L ≤ 2048) (hi : i + 3 < L) (hu : u + 3 ≤ U) {S S9 : St} (h : LS_7 (xs (i + 1)) (xs (i + 2)) (xs (i + 3)) S = some S9) (kk : X F (u + 3) 2066 [(0, .ref bb), (1, .ref (gA F 0)), (2, .ref (gA F 75)), (3, .ref (gA F 90)), (4, .int (nI i))] [] S9) : X F u 585 [(0, .ref bb), (1, .ref (gA F 0)), (2, .ref (gA F 75)), (3, .ref (gA F 90)), (4, .int (nI i))] [] S := by
  unfold LS_7 at h
  refine x_aload_n hF dL_law_585 rfl rfl ?_
  refine x_aload_n hF dL_law_586 rfl rfl ?_
  refine x_iload hF dL_law_587 rfl ?_
  refine x_iconst (v := (1 : Int32)) hF dL_law_589 (by decide) ?_
  refine x_iadd hF dL_law_590 ?_
  refine x_scr (kk := 1) hF hX (by omega) hL (by decide) dL_law_591 ?_
  refine x_aload_n hF dL_law_592 rfl rfl ?_
  obtain ⟨k1, S1, hcall, h⟩ := ob_some h
  refine x_cW (n := 3) hF hN hR (cwL_setScheduler hF.tr hcall) tw_779 tw_778 tw_71 ⟨by decide, by decide, by decide⟩ (by decide) tw_777 ⟨by omega, by decide⟩ rfl rfl (Nat.le_of_ble_eq_true rfl) dL_law_593 ?_
  refine x_istore [(5, _), (0, _), (1, _), (2, _), (3, _), (4, _)] hF hN dL_law_596 (by decide) rfl ?_
  refine x_aload_n hF dL_law_598 rfl rfl ?_
  refine x_aload_n hF dL_law_599 rfl rfl ?_
  refine x_iload hF dL_law_600 rfl ?_
  refine x_iconst (v := (1 : Int32)) hF dL_law_602 (by decide) ?_
  refine x_iadd hF dL_law_603 ?_
  refine x_scr (kk := 1) hF hX (by omega) hL (by decide) dL_law_604 ?_
  obtain ⟨r2, S2, hcall, h⟩ := ob_some h
  refine x_cVi hF hN hR (ctX8_setScheduler hF.tr hcall) mwX8_setScheduler miX8_setScheduler sh75 ck7 (by decide) tw_1215 ⟨by omega, by decide⟩ rfl rfl (Nat.le_of_ble_eq_true rfl) dL_law_605 ?_
  refine x_istore [(6, _), (5, _), (0, _), (1, _), (2, _), (3, _), (4, _)] hF hN dL_law_608 (by decide) rfl ?_
  refine x_aload_n hF dL_law_610 rfl rfl ?_
  obtain ⟨r3, S3, hcall, h⟩ := ob_some h
  refine x_cVi hF hN hR (ctX8_thrown hF.tr hcall) mwX8_thrown miX8_thrown sh75 ck7 (by decide) tw_1136 ⟨by omega, by decide⟩ rfl rfl (Nat.le_of_ble_eq_true rfl) dL_law_611 ?_
  refine x_iload hF dL_law_614 rfl ?_
  obtain ⟨hg, h⟩ := og_some h
  refine x_icmp_eq (tgt := 621) hF dL_law_616 (by decide) (fun _ => ?_) (fun hc => absurd hg hc)
  refine x_iload hF dL_law_621 rfl ?_
  refine x_if_ne (tgt := 638) hF dL_law_623 (by decide) (fun hc => ?_) (fun hc => ?_)
  · have h := oi_neg hc h
    refine x_goto (tgt := 2066) hF dL_law_638 (by decide) ?_
    obtain rfl := Option.some.inj h
    exact x_wid (by omega) (x_sub kk ⟨rfl, rfl, rfl, rfl, rfl, trivial⟩)
  have h := oi_pos hc h
  refine x_aload_n hF dL_law_626 rfl rfl ?_
  refine x_iconst (v := (0 : Int32)) hF dL_law_627 (by decide) ?_
  refine x_lald (j := 0) hF sh90 (by decide) (by decide) (by decide) dL_law_628 ?_
  refine x_iload hF dL_law_629 rfl ?_
  refine x_i2l hF dL_law_631 ?_
  refine x_lcmp hF dL_law_632 ?_
  obtain ⟨hg, h⟩ := og_some h
  refine x_if_eq (tgt := 638) hF dL_law_633 (by decide) (fun _ => ?_) (fun hc => absurd hg hc)
  refine x_goto (tgt := 2066) hF dL_law_638 (by decide) ?_
  obtain rfl := Option.some.inj h
  exact x_wid (by omega) (x_sub kk ⟨rfl, rfl, rfl, rfl, rfl, trivial⟩)
noncomputable def LS_8 (a b c : Int32) (S : St) : Option St :=
  ob (L_setFactor a S) (fun k1 S1 => ob (X8_setFactor a S1) (fun r2 S2 => ob (X8_thrown  S2) (fun r3 S3 => og (r3 = k1) (oi (k1 = 0) (og (lg_cmp (gl S3 90 0) r2.toInt64 = 0) (some S3)) (some S3)))))
set_option maxHeartbeats 4000000 in
set_option maxRecDepth 20000 in
theorem xL_case8 {F : Cx} {u U bb L i : Nat} {xs : Nat → Int32} (hF : Ok F cL_law RL) (hN : nLF F 7) (hR : RmF F 10 U) (hX : Scr F bb L xs) (hL : L ≤ 2048) (hi : i + 3 < L) (hu : u + 3 ≤ U) {S S9 : St} (h : LS_8 (xs (i + 1)) (xs (i + 2)) (xs (i + 3)) S = some S9) (kk : X F (u + 3) 2066 [(0, .ref bb), (1, .ref (gA F 0)), (2, .ref (gA F 75)), (3, .ref (gA F 90)), (4, .int (nI i))] [] S9) : X F u 641 [(0, .ref bb), (1, .ref (gA F 0)), (2, .ref (gA F 75)), (3, .ref (gA F 90)), (4, .int (nI i))] [] S := by
  unfold LS_8 at h
  refine x_aload_n hF dL_law_641 rfl rfl ?_
  refine x_aload_n hF dL_law_642 rfl rfl ?_
  refine x_iload hF dL_law_643 rfl ?_
  refine x_iconst (v := (1 : Int32)) hF dL_law_645 (by decide) ?_
  refine x_iadd hF dL_law_646 ?_
  refine x_scr (kk := 1) hF hX (by omega) hL (by decide) dL_law_647 ?_
  refine x_aload_n hF dL_law_648 rfl rfl ?_
  obtain ⟨k1, S1, hcall, h⟩ := ob_some h
  refine x_cW (n := 3) hF hN hR (cwL_setFactor hF.tr hcall) tw_786 tw_785 tw_71 ⟨by decide, by decide, by decide⟩ (by decide) tw_784 ⟨by omega, by decide⟩ rfl rfl (Nat.le_of_ble_eq_true rfl) dL_law_649 ?_
  refine x_istore [(5, _), (0, _), (1, _), (2, _), (3, _), (4, _)] hF hN dL_law_652 (by decide) rfl ?_
  refine x_aload_n hF dL_law_654 rfl rfl ?_
  refine x_aload_n hF dL_law_655 rfl rfl ?_
  refine x_iload hF dL_law_656 rfl ?_
  refine x_iconst (v := (1 : Int32)) hF dL_law_658 (by decide) ?_
  refine x_iadd hF dL_law_659 ?_
  refine x_scr (kk := 1) hF hX (by omega) hL (by decide) dL_law_660 ?_
  obtain ⟨r2, S2, hcall, h⟩ := ob_some h
  refine x_cVi hF hN hR (ctX8_setFactor hF.tr hcall) mwX8_setFactor miX8_setFactor sh75 ck7 (by decide) tw_1219 ⟨by omega, by decide⟩ rfl rfl (Nat.le_of_ble_eq_true rfl) dL_law_661 ?_
  refine x_istore [(6, _), (5, _), (0, _), (1, _), (2, _), (3, _), (4, _)] hF hN dL_law_664 (by decide) rfl ?_
  refine x_aload_n hF dL_law_666 rfl rfl ?_
  obtain ⟨r3, S3, hcall, h⟩ := ob_some h
  refine x_cVi hF hN hR (ctX8_thrown hF.tr hcall) mwX8_thrown miX8_thrown sh75 ck7 (by decide) tw_1136 ⟨by omega, by decide⟩ rfl rfl (Nat.le_of_ble_eq_true rfl) dL_law_667 ?_
  refine x_iload hF dL_law_670 rfl ?_
  obtain ⟨hg, h⟩ := og_some h
  refine x_icmp_eq (tgt := 677) hF dL_law_672 (by decide) (fun _ => ?_) (fun hc => absurd hg hc)
  refine x_iload hF dL_law_677 rfl ?_
  refine x_if_ne (tgt := 694) hF dL_law_679 (by decide) (fun hc => ?_) (fun hc => ?_)
  · have h := oi_neg hc h
    refine x_goto (tgt := 2066) hF dL_law_694 (by decide) ?_
    obtain rfl := Option.some.inj h
    exact x_wid (by omega) (x_sub kk ⟨rfl, rfl, rfl, rfl, rfl, trivial⟩)
  have h := oi_pos hc h
  refine x_aload_n hF dL_law_682 rfl rfl ?_
  refine x_iconst (v := (0 : Int32)) hF dL_law_683 (by decide) ?_
  refine x_lald (j := 0) hF sh90 (by decide) (by decide) (by decide) dL_law_684 ?_
  refine x_iload hF dL_law_685 rfl ?_
  refine x_i2l hF dL_law_687 ?_
  refine x_lcmp hF dL_law_688 ?_
  obtain ⟨hg, h⟩ := og_some h
  refine x_if_eq (tgt := 694) hF dL_law_689 (by decide) (fun _ => ?_) (fun hc => absurd hg hc)
  refine x_goto (tgt := 2066) hF dL_law_694 (by decide) ?_
  obtain rfl := Option.some.inj h
  exact x_wid (by omega) (x_sub kk ⟨rfl, rfl, rfl, rfl, rfl, trivial⟩)
noncomputable def LS_9 (a b c : Int32) (S : St) : Option St :=
  ob (L_setThreshold a S) (fun k1 S1 => ob (X8_setThreshold a S1) (fun r2 S2 => ob (X8_thrown  S2) (fun r3 S3 => og (r3 = k1) (oi (k1 = 0) (og (lg_cmp (gl S3 90 0) r2.toInt64 = 0) (some S3)) (some S3)))))
set_option maxHeartbeats 4000000 in
set_option maxRecDepth 20000 in
theorem xL_case9 {F : Cx} {u U bb L i : Nat} {xs : Nat → Int32} (hF : Ok F cL_law RL) (hN : nLF F 7) (hR : RmF F 10 U) (hX : Scr F bb L xs) (hL : L ≤ 2048) (hi : i + 3 < L) (hu : u + 3 ≤ U) {S S9 : St} (h : LS_9 (xs (i + 1)) (xs (i + 2)) (xs (i + 3)) S = some S9) (kk : X F (u + 3) 2066 [(0, .ref bb), (1, .ref (gA F 0)), (2, .ref (gA F 75)), (3, .ref (gA F 90)), (4, .int (nI i))] [] S9) : X F u 697 [(0, .ref bb), (1, .ref (gA F 0)), (2, .ref (gA F 75)), (3, .ref (gA F 90)), (4, .int (nI i))] [] S := by
  unfold LS_9 at h
  refine x_aload_n hF dL_law_697 rfl rfl ?_
  refine x_aload_n hF dL_law_698 rfl rfl ?_
  refine x_iload hF dL_law_699 rfl ?_
  refine x_iconst (v := (1 : Int32)) hF dL_law_701 (by decide) ?_
  refine x_iadd hF dL_law_702 ?_
  refine x_scr (kk := 1) hF hX (by omega) hL (by decide) dL_law_703 ?_
  refine x_aload_n hF dL_law_704 rfl rfl ?_
  obtain ⟨k1, S1, hcall, h⟩ := ob_some h
  refine x_cW (n := 3) hF hN hR (cwL_setThreshold hF.tr hcall) tw_793 tw_792 tw_71 ⟨by decide, by decide, by decide⟩ (by decide) tw_791 ⟨by omega, by decide⟩ rfl rfl (Nat.le_of_ble_eq_true rfl) dL_law_705 ?_
  refine x_istore [(5, _), (0, _), (1, _), (2, _), (3, _), (4, _)] hF hN dL_law_708 (by decide) rfl ?_
  refine x_aload_n hF dL_law_710 rfl rfl ?_
  refine x_aload_n hF dL_law_711 rfl rfl ?_
  refine x_iload hF dL_law_712 rfl ?_
  refine x_iconst (v := (1 : Int32)) hF dL_law_714 (by decide) ?_
  refine x_iadd hF dL_law_715 ?_
  refine x_scr (kk := 1) hF hX (by omega) hL (by decide) dL_law_716 ?_
  obtain ⟨r2, S2, hcall, h⟩ := ob_some h
  refine x_cVi hF hN hR (ctX8_setThreshold hF.tr hcall) mwX8_setThreshold miX8_setThreshold sh75 ck7 (by decide) tw_1223 ⟨by omega, by decide⟩ rfl rfl (Nat.le_of_ble_eq_true rfl) dL_law_717 ?_
  refine x_istore [(6, _), (5, _), (0, _), (1, _), (2, _), (3, _), (4, _)] hF hN dL_law_720 (by decide) rfl ?_
  refine x_aload_n hF dL_law_722 rfl rfl ?_
  obtain ⟨r3, S3, hcall, h⟩ := ob_some h
  refine x_cVi hF hN hR (ctX8_thrown hF.tr hcall) mwX8_thrown miX8_thrown sh75 ck7 (by decide) tw_1136 ⟨by omega, by decide⟩ rfl rfl (Nat.le_of_ble_eq_true rfl) dL_law_723 ?_
  refine x_iload hF dL_law_726 rfl ?_
  obtain ⟨hg, h⟩ := og_some h
  refine x_icmp_eq (tgt := 733) hF dL_law_728 (by decide) (fun _ => ?_) (fun hc => absurd hg hc)
  refine x_iload hF dL_law_733 rfl ?_
  refine x_if_ne (tgt := 750) hF dL_law_735 (by decide) (fun hc => ?_) (fun hc => ?_)
  · have h := oi_neg hc h
    refine x_goto (tgt := 2066) hF dL_law_750 (by decide) ?_
    obtain rfl := Option.some.inj h
    exact x_wid (by omega) (x_sub kk ⟨rfl, rfl, rfl, rfl, rfl, trivial⟩)
  have h := oi_pos hc h
  refine x_aload_n hF dL_law_738 rfl rfl ?_
  refine x_iconst (v := (0 : Int32)) hF dL_law_739 (by decide) ?_
  refine x_lald (j := 0) hF sh90 (by decide) (by decide) (by decide) dL_law_740 ?_
  refine x_iload hF dL_law_741 rfl ?_
  refine x_i2l hF dL_law_743 ?_
  refine x_lcmp hF dL_law_744 ?_
  obtain ⟨hg, h⟩ := og_some h
  refine x_if_eq (tgt := 750) hF dL_law_745 (by decide) (fun _ => ?_) (fun hc => absurd hg hc)
  refine x_goto (tgt := 2066) hF dL_law_750 (by decide) ?_
  obtain rfl := Option.some.inj h
  exact x_wid (by omega) (x_sub kk ⟨rfl, rfl, rfl, rfl, rfl, trivial⟩)
noncomputable def LS_10 (a b c : Int32) (S : St) : Option St :=
  ob (L_setInterval a S) (fun k1 S1 => ob (X8_setInterval a S1) (fun r2 S2 => ob (X8_thrown  S2) (fun r3 S3 => og (r3 = k1) (oi (k1 = 0) (og (lg_cmp (gl S3 90 0) r2.toInt64 = 0) (some S3)) (some S3)))))
set_option maxHeartbeats 4000000 in
set_option maxRecDepth 20000 in
theorem xL_case10 {F : Cx} {u U bb L i : Nat} {xs : Nat → Int32} (hF : Ok F cL_law RL) (hN : nLF F 7) (hR : RmF F 10 U) (hX : Scr F bb L xs) (hL : L ≤ 2048) (hi : i + 3 < L) (hu : u + 3 ≤ U) {S S9 : St} (h : LS_10 (xs (i + 1)) (xs (i + 2)) (xs (i + 3)) S = some S9) (kk : X F (u + 3) 2066 [(0, .ref bb), (1, .ref (gA F 0)), (2, .ref (gA F 75)), (3, .ref (gA F 90)), (4, .int (nI i))] [] S9) : X F u 753 [(0, .ref bb), (1, .ref (gA F 0)), (2, .ref (gA F 75)), (3, .ref (gA F 90)), (4, .int (nI i))] [] S := by
  unfold LS_10 at h
  refine x_aload_n hF dL_law_753 rfl rfl ?_
  refine x_aload_n hF dL_law_754 rfl rfl ?_
  refine x_iload hF dL_law_755 rfl ?_
  refine x_iconst (v := (1 : Int32)) hF dL_law_757 (by decide) ?_
  refine x_iadd hF dL_law_758 ?_
  refine x_scr (kk := 1) hF hX (by omega) hL (by decide) dL_law_759 ?_
  refine x_aload_n hF dL_law_760 rfl rfl ?_
  obtain ⟨k1, S1, hcall, h⟩ := ob_some h
  refine x_cW (n := 3) hF hN hR (cwL_setInterval hF.tr hcall) tw_800 tw_799 tw_71 ⟨by decide, by decide, by decide⟩ (by decide) tw_798 ⟨by omega, by decide⟩ rfl rfl (Nat.le_of_ble_eq_true rfl) dL_law_761 ?_
  refine x_istore [(5, _), (0, _), (1, _), (2, _), (3, _), (4, _)] hF hN dL_law_764 (by decide) rfl ?_
  refine x_aload_n hF dL_law_766 rfl rfl ?_
  refine x_aload_n hF dL_law_767 rfl rfl ?_
  refine x_iload hF dL_law_768 rfl ?_
  refine x_iconst (v := (1 : Int32)) hF dL_law_770 (by decide) ?_
  refine x_iadd hF dL_law_771 ?_
  refine x_scr (kk := 1) hF hX (by omega) hL (by decide) dL_law_772 ?_
  obtain ⟨r2, S2, hcall, h⟩ := ob_some h
  refine x_cVi hF hN hR (ctX8_setInterval hF.tr hcall) mwX8_setInterval miX8_setInterval sh75 ck7 (by decide) tw_1227 ⟨by omega, by decide⟩ rfl rfl (Nat.le_of_ble_eq_true rfl) dL_law_773 ?_
  refine x_istore [(6, _), (5, _), (0, _), (1, _), (2, _), (3, _), (4, _)] hF hN dL_law_776 (by decide) rfl ?_
  refine x_aload_n hF dL_law_778 rfl rfl ?_
  obtain ⟨r3, S3, hcall, h⟩ := ob_some h
  refine x_cVi hF hN hR (ctX8_thrown hF.tr hcall) mwX8_thrown miX8_thrown sh75 ck7 (by decide) tw_1136 ⟨by omega, by decide⟩ rfl rfl (Nat.le_of_ble_eq_true rfl) dL_law_779 ?_
  refine x_iload hF dL_law_782 rfl ?_
  obtain ⟨hg, h⟩ := og_some h
  refine x_icmp_eq (tgt := 789) hF dL_law_784 (by decide) (fun _ => ?_) (fun hc => absurd hg hc)
  refine x_iload hF dL_law_789 rfl ?_
  refine x_if_ne (tgt := 806) hF dL_law_791 (by decide) (fun hc => ?_) (fun hc => ?_)
  · have h := oi_neg hc h
    refine x_goto (tgt := 2066) hF dL_law_806 (by decide) ?_
    obtain rfl := Option.some.inj h
    exact x_wid (by omega) (x_sub kk ⟨rfl, rfl, rfl, rfl, rfl, trivial⟩)
  have h := oi_pos hc h
  refine x_aload_n hF dL_law_794 rfl rfl ?_
  refine x_iconst (v := (0 : Int32)) hF dL_law_795 (by decide) ?_
  refine x_lald (j := 0) hF sh90 (by decide) (by decide) (by decide) dL_law_796 ?_
  refine x_iload hF dL_law_797 rfl ?_
  refine x_i2l hF dL_law_799 ?_
  refine x_lcmp hF dL_law_800 ?_
  obtain ⟨hg, h⟩ := og_some h
  refine x_if_eq (tgt := 806) hF dL_law_801 (by decide) (fun _ => ?_) (fun hc => absurd hg hc)
  refine x_goto (tgt := 2066) hF dL_law_806 (by decide) ?_
  obtain rfl := Option.some.inj h
  exact x_wid (by omega) (x_sub kk ⟨rfl, rfl, rfl, rfl, rfl, trivial⟩)
noncomputable def LS_11 (a b c : Int32) (S : St) : Option St :=
  ob (L_setMeasure a S) (fun k1 S1 => ob (X8_setMeasure a S1) (fun r2 S2 => ob (X8_thrown  S2) (fun r3 S3 => og (r3 = k1) (oi (k1 = 0) (og (lg_cmp (gl S3 90 0) r2.toInt64 = 0) (some S3)) (some S3)))))
set_option maxHeartbeats 4000000 in
set_option maxRecDepth 20000 in
theorem xL_case11 {F : Cx} {u U bb L i : Nat} {xs : Nat → Int32} (hF : Ok F cL_law RL) (hN : nLF F 7) (hR : RmF F 10 U) (hX : Scr F bb L xs) (hL : L ≤ 2048) (hi : i + 3 < L) (hu : u + 3 ≤ U) {S S9 : St} (h : LS_11 (xs (i + 1)) (xs (i + 2)) (xs (i + 3)) S = some S9) (kk : X F (u + 3) 2066 [(0, .ref bb), (1, .ref (gA F 0)), (2, .ref (gA F 75)), (3, .ref (gA F 90)), (4, .int (nI i))] [] S9) : X F u 809 [(0, .ref bb), (1, .ref (gA F 0)), (2, .ref (gA F 75)), (3, .ref (gA F 90)), (4, .int (nI i))] [] S := by
  unfold LS_11 at h
  refine x_aload_n hF dL_law_809 rfl rfl ?_
  refine x_aload_n hF dL_law_810 rfl rfl ?_
  refine x_iload hF dL_law_811 rfl ?_
  refine x_iconst (v := (1 : Int32)) hF dL_law_813 (by decide) ?_
  refine x_iadd hF dL_law_814 ?_
  refine x_scr (kk := 1) hF hX (by omega) hL (by decide) dL_law_815 ?_
  refine x_aload_n hF dL_law_816 rfl rfl ?_
  obtain ⟨k1, S1, hcall, h⟩ := ob_some h
  refine x_cW (n := 3) hF hN hR (cwL_setMeasure hF.tr hcall) tw_807 tw_806 tw_71 ⟨by decide, by decide, by decide⟩ (by decide) tw_805 ⟨by omega, by decide⟩ rfl rfl (Nat.le_of_ble_eq_true rfl) dL_law_817 ?_
  refine x_istore [(5, _), (0, _), (1, _), (2, _), (3, _), (4, _)] hF hN dL_law_820 (by decide) rfl ?_
  refine x_aload_n hF dL_law_822 rfl rfl ?_
  refine x_aload_n hF dL_law_823 rfl rfl ?_
  refine x_iload hF dL_law_824 rfl ?_
  refine x_iconst (v := (1 : Int32)) hF dL_law_826 (by decide) ?_
  refine x_iadd hF dL_law_827 ?_
  refine x_scr (kk := 1) hF hX (by omega) hL (by decide) dL_law_828 ?_
  obtain ⟨r2, S2, hcall, h⟩ := ob_some h
  refine x_cVi hF hN hR (ctX8_setMeasure hF.tr hcall) mwX8_setMeasure miX8_setMeasure sh75 ck7 (by decide) tw_1231 ⟨by omega, by decide⟩ rfl rfl (Nat.le_of_ble_eq_true rfl) dL_law_829 ?_
  refine x_istore [(6, _), (5, _), (0, _), (1, _), (2, _), (3, _), (4, _)] hF hN dL_law_832 (by decide) rfl ?_
  refine x_aload_n hF dL_law_834 rfl rfl ?_
  obtain ⟨r3, S3, hcall, h⟩ := ob_some h
  refine x_cVi hF hN hR (ctX8_thrown hF.tr hcall) mwX8_thrown miX8_thrown sh75 ck7 (by decide) tw_1136 ⟨by omega, by decide⟩ rfl rfl (Nat.le_of_ble_eq_true rfl) dL_law_835 ?_
  refine x_iload hF dL_law_838 rfl ?_
  obtain ⟨hg, h⟩ := og_some h
  refine x_icmp_eq (tgt := 845) hF dL_law_840 (by decide) (fun _ => ?_) (fun hc => absurd hg hc)
  refine x_iload hF dL_law_845 rfl ?_
  refine x_if_ne (tgt := 862) hF dL_law_847 (by decide) (fun hc => ?_) (fun hc => ?_)
  · have h := oi_neg hc h
    refine x_goto (tgt := 2066) hF dL_law_862 (by decide) ?_
    obtain rfl := Option.some.inj h
    exact x_wid (by omega) (x_sub kk ⟨rfl, rfl, rfl, rfl, rfl, trivial⟩)
  have h := oi_pos hc h
  refine x_aload_n hF dL_law_850 rfl rfl ?_
  refine x_iconst (v := (0 : Int32)) hF dL_law_851 (by decide) ?_
  refine x_lald (j := 0) hF sh90 (by decide) (by decide) (by decide) dL_law_852 ?_
  refine x_iload hF dL_law_853 rfl ?_
  refine x_i2l hF dL_law_855 ?_
  refine x_lcmp hF dL_law_856 ?_
  obtain ⟨hg, h⟩ := og_some h
  refine x_if_eq (tgt := 862) hF dL_law_857 (by decide) (fun _ => ?_) (fun hc => absurd hg hc)
  refine x_goto (tgt := 2066) hF dL_law_862 (by decide) ?_
  obtain rfl := Option.some.inj h
  exact x_wid (by omega) (x_sub kk ⟨rfl, rfl, rfl, rfl, rfl, trivial⟩)
noncomputable def LS_12 (a b c : Int32) (S : St) : Option St :=
  ob (L_setPriority a b S) (fun k1 S1 => ob (X8_setPriority a b S1) (fun r2 S2 => ob (X8_thrown  S2) (fun r3 S3 => og (r3 = k1) (oi (k1 = 0) (og (lg_cmp (gl S3 90 0) r2.toInt64 = 0) (some S3)) (some S3)))))
set_option maxHeartbeats 4000000 in
set_option maxRecDepth 20000 in
theorem xL_case12 {F : Cx} {u U bb L i : Nat} {xs : Nat → Int32} (hF : Ok F cL_law RL) (hN : nLF F 7) (hR : RmF F 10 U) (hX : Scr F bb L xs) (hL : L ≤ 2048) (hi : i + 3 < L) (hu : u + 3 ≤ U) {S S9 : St} (h : LS_12 (xs (i + 1)) (xs (i + 2)) (xs (i + 3)) S = some S9) (kk : X F (u + 3) 2066 [(0, .ref bb), (1, .ref (gA F 0)), (2, .ref (gA F 75)), (3, .ref (gA F 90)), (4, .int (nI i))] [] S9) : X F u 865 [(0, .ref bb), (1, .ref (gA F 0)), (2, .ref (gA F 75)), (3, .ref (gA F 90)), (4, .int (nI i))] [] S := by
  unfold LS_12 at h
  refine x_aload_n hF dL_law_865 rfl rfl ?_
  refine x_aload_n hF dL_law_866 rfl rfl ?_
  refine x_iload hF dL_law_867 rfl ?_
  refine x_iconst (v := (1 : Int32)) hF dL_law_869 (by decide) ?_
  refine x_iadd hF dL_law_870 ?_
  refine x_scr (kk := 1) hF hX (by omega) hL (by decide) dL_law_871 ?_
  refine x_aload_n hF dL_law_872 rfl rfl ?_
  refine x_iload hF dL_law_873 rfl ?_
  refine x_iconst (v := (2 : Int32)) hF dL_law_875 (by decide) ?_
  refine x_iadd hF dL_law_876 ?_
  refine x_scr (kk := 2) hF hX (by omega) hL (by decide) dL_law_877 ?_
  refine x_aload_n hF dL_law_878 rfl rfl ?_
  obtain ⟨k1, S1, hcall, h⟩ := ob_some h
  refine x_cW (n := 4) hF hN hR (cwL_setPriority hF.tr hcall) tw_814 tw_813 tw_71 ⟨by decide, by decide, by decide⟩ (by decide) tw_812 ⟨by omega, by decide⟩ rfl rfl (Nat.le_of_ble_eq_true rfl) dL_law_879 ?_
  refine x_istore [(5, _), (0, _), (1, _), (2, _), (3, _), (4, _)] hF hN dL_law_882 (by decide) rfl ?_
  refine x_aload_n hF dL_law_884 rfl rfl ?_
  refine x_aload_n hF dL_law_885 rfl rfl ?_
  refine x_iload hF dL_law_886 rfl ?_
  refine x_iconst (v := (1 : Int32)) hF dL_law_888 (by decide) ?_
  refine x_iadd hF dL_law_889 ?_
  refine x_scr (kk := 1) hF hX (by omega) hL (by decide) dL_law_890 ?_
  refine x_aload_n hF dL_law_891 rfl rfl ?_
  refine x_iload hF dL_law_892 rfl ?_
  refine x_iconst (v := (2 : Int32)) hF dL_law_894 (by decide) ?_
  refine x_iadd hF dL_law_895 ?_
  refine x_scr (kk := 2) hF hX (by omega) hL (by decide) dL_law_896 ?_
  obtain ⟨r2, S2, hcall, h⟩ := ob_some h
  refine x_cVi hF hN hR (ctX8_setPriority hF.tr hcall) mwX8_setPriority miX8_setPriority sh75 ck7 (by decide) tw_1235 ⟨by omega, by decide⟩ rfl rfl (Nat.le_of_ble_eq_true rfl) dL_law_897 ?_
  refine x_istore [(6, _), (5, _), (0, _), (1, _), (2, _), (3, _), (4, _)] hF hN dL_law_900 (by decide) rfl ?_
  refine x_aload_n hF dL_law_902 rfl rfl ?_
  obtain ⟨r3, S3, hcall, h⟩ := ob_some h
  refine x_cVi hF hN hR (ctX8_thrown hF.tr hcall) mwX8_thrown miX8_thrown sh75 ck7 (by decide) tw_1136 ⟨by omega, by decide⟩ rfl rfl (Nat.le_of_ble_eq_true rfl) dL_law_903 ?_
  refine x_iload hF dL_law_906 rfl ?_
  obtain ⟨hg, h⟩ := og_some h
  refine x_icmp_eq (tgt := 913) hF dL_law_908 (by decide) (fun _ => ?_) (fun hc => absurd hg hc)
  refine x_iload hF dL_law_913 rfl ?_
  refine x_if_ne (tgt := 930) hF dL_law_915 (by decide) (fun hc => ?_) (fun hc => ?_)
  · have h := oi_neg hc h
    refine x_goto (tgt := 2066) hF dL_law_930 (by decide) ?_
    obtain rfl := Option.some.inj h
    exact x_wid (by omega) (x_sub kk ⟨rfl, rfl, rfl, rfl, rfl, trivial⟩)
  have h := oi_pos hc h
  refine x_aload_n hF dL_law_918 rfl rfl ?_
  refine x_iconst (v := (0 : Int32)) hF dL_law_919 (by decide) ?_
  refine x_lald (j := 0) hF sh90 (by decide) (by decide) (by decide) dL_law_920 ?_
  refine x_iload hF dL_law_921 rfl ?_
  refine x_i2l hF dL_law_923 ?_
  refine x_lcmp hF dL_law_924 ?_
  obtain ⟨hg, h⟩ := og_some h
  refine x_if_eq (tgt := 930) hF dL_law_925 (by decide) (fun _ => ?_) (fun hc => absurd hg hc)
  refine x_goto (tgt := 2066) hF dL_law_930 (by decide) ?_
  obtain rfl := Option.some.inj h
  exact x_wid (by omega) (x_sub kk ⟨rfl, rfl, rfl, rfl, rfl, trivial⟩)
noncomputable def LS_13 (a b c : Int32) (S : St) : Option St :=
  ob (L_replay a S) (fun k1 S1 => ob (X8_replay a S1) (fun r2 S2 => ob (X8_thrown  S2) (fun r3 S3 => og (r3 = k1) (oi (k1 = 0) (og (lg_cmp (gl S3 90 0) r2.toInt64 = 0) (some S3)) (some S3)))))
set_option maxHeartbeats 4000000 in
set_option maxRecDepth 20000 in
theorem xL_case13 {F : Cx} {u U bb L i : Nat} {xs : Nat → Int32} (hF : Ok F cL_law RL) (hN : nLF F 7) (hR : RmF F 10 U) (hX : Scr F bb L xs) (hL : L ≤ 2048) (hi : i + 3 < L) (hu : u + 3 ≤ U) {S S9 : St} (h : LS_13 (xs (i + 1)) (xs (i + 2)) (xs (i + 3)) S = some S9) (kk : X F (u + 3) 2066 [(0, .ref bb), (1, .ref (gA F 0)), (2, .ref (gA F 75)), (3, .ref (gA F 90)), (4, .int (nI i))] [] S9) : X F u 933 [(0, .ref bb), (1, .ref (gA F 0)), (2, .ref (gA F 75)), (3, .ref (gA F 90)), (4, .int (nI i))] [] S := by
  unfold LS_13 at h
  refine x_aload_n hF dL_law_933 rfl rfl ?_
  refine x_aload_n hF dL_law_934 rfl rfl ?_
  refine x_iload hF dL_law_935 rfl ?_
  refine x_iconst (v := (1 : Int32)) hF dL_law_937 (by decide) ?_
  refine x_iadd hF dL_law_938 ?_
  refine x_scr (kk := 1) hF hX (by omega) hL (by decide) dL_law_939 ?_
  refine x_aload_n hF dL_law_940 rfl rfl ?_
  obtain ⟨k1, S1, hcall, h⟩ := ob_some h
  refine x_cW (n := 3) hF hN hR (cwL_replay hF.tr hcall) tw_821 tw_820 tw_71 ⟨by decide, by decide, by decide⟩ (by decide) tw_819 ⟨by omega, by decide⟩ rfl rfl (Nat.le_of_ble_eq_true rfl) dL_law_941 ?_
  refine x_istore [(5, _), (0, _), (1, _), (2, _), (3, _), (4, _)] hF hN dL_law_944 (by decide) rfl ?_
  refine x_aload_n hF dL_law_946 rfl rfl ?_
  refine x_aload_n hF dL_law_947 rfl rfl ?_
  refine x_iload hF dL_law_948 rfl ?_
  refine x_iconst (v := (1 : Int32)) hF dL_law_950 (by decide) ?_
  refine x_iadd hF dL_law_951 ?_
  refine x_scr (kk := 1) hF hX (by omega) hL (by decide) dL_law_952 ?_
  obtain ⟨r2, S2, hcall, h⟩ := ob_some h
  refine x_cVi hF hN hR (ctX8_replay hF.tr hcall) mwX8_replay miX8_replay sh75 ck7 (by decide) tw_1239 ⟨by omega, by decide⟩ rfl rfl (Nat.le_of_ble_eq_true rfl) dL_law_953 ?_
  refine x_istore [(6, _), (5, _), (0, _), (1, _), (2, _), (3, _), (4, _)] hF hN dL_law_956 (by decide) rfl ?_
  refine x_aload_n hF dL_law_958 rfl rfl ?_
  obtain ⟨r3, S3, hcall, h⟩ := ob_some h
  refine x_cVi hF hN hR (ctX8_thrown hF.tr hcall) mwX8_thrown miX8_thrown sh75 ck7 (by decide) tw_1136 ⟨by omega, by decide⟩ rfl rfl (Nat.le_of_ble_eq_true rfl) dL_law_959 ?_
  refine x_iload hF dL_law_962 rfl ?_
  obtain ⟨hg, h⟩ := og_some h
  refine x_icmp_eq (tgt := 969) hF dL_law_964 (by decide) (fun _ => ?_) (fun hc => absurd hg hc)
  refine x_iload hF dL_law_969 rfl ?_
  refine x_if_ne (tgt := 986) hF dL_law_971 (by decide) (fun hc => ?_) (fun hc => ?_)
  · have h := oi_neg hc h
    refine x_goto (tgt := 2066) hF dL_law_986 (by decide) ?_
    obtain rfl := Option.some.inj h
    exact x_wid (by omega) (x_sub kk ⟨rfl, rfl, rfl, rfl, rfl, trivial⟩)
  have h := oi_pos hc h
  refine x_aload_n hF dL_law_974 rfl rfl ?_
  refine x_iconst (v := (0 : Int32)) hF dL_law_975 (by decide) ?_
  refine x_lald (j := 0) hF sh90 (by decide) (by decide) (by decide) dL_law_976 ?_
  refine x_iload hF dL_law_977 rfl ?_
  refine x_i2l hF dL_law_979 ?_
  refine x_lcmp hF dL_law_980 ?_
  obtain ⟨hg, h⟩ := og_some h
  refine x_if_eq (tgt := 986) hF dL_law_981 (by decide) (fun _ => ?_) (fun hc => absurd hg hc)
  refine x_goto (tgt := 2066) hF dL_law_986 (by decide) ?_
  obtain rfl := Option.some.inj h
  exact x_wid (by omega) (x_sub kk ⟨rfl, rfl, rfl, rfl, rfl, trivial⟩)
noncomputable def LS_14 (a b c : Int32) (S : St) : Option St :=
  ob (X7_fate a S) (fun r1 S1 => ob (X8_fate a S1) (fun r2 S2 => og (r1 = r2) (some S2)))
set_option maxHeartbeats 4000000 in
set_option maxRecDepth 20000 in
theorem xL_case14 {F : Cx} {u U bb L i : Nat} {xs : Nat → Int32} (hF : Ok F cL_law RL) (hN : nLF F 7) (hR : RmF F 10 U) (hX : Scr F bb L xs) (hL : L ≤ 2048) (hi : i + 3 < L) (hu : u + 3 ≤ U) {S S9 : St} (h : LS_14 (xs (i + 1)) (xs (i + 2)) (xs (i + 3)) S = some S9) (kk : X F (u + 3) 2066 [(0, .ref bb), (1, .ref (gA F 0)), (2, .ref (gA F 75)), (3, .ref (gA F 90)), (4, .int (nI i))] [] S9) : X F u 989 [(0, .ref bb), (1, .ref (gA F 0)), (2, .ref (gA F 75)), (3, .ref (gA F 90)), (4, .int (nI i))] [] S := by
  unfold LS_14 at h
  refine x_aload_n hF dL_law_989 rfl rfl ?_
  refine x_aload_n hF dL_law_990 rfl rfl ?_
  refine x_iload hF dL_law_991 rfl ?_
  refine x_iconst (v := (1 : Int32)) hF dL_law_993 (by decide) ?_
  refine x_iadd hF dL_law_994 ?_
  refine x_scr (kk := 1) hF hX (by omega) hL (by decide) dL_law_995 ?_
  obtain ⟨r1, S1, hcall, h⟩ := ob_some h
  refine x_cVi hF hN hR (ctX7_fate hF.tr hcall) mwX7_fate miX7_fate sh0 ck6 (by decide) tw_321 ⟨by omega, by decide⟩ rfl rfl (Nat.le_of_ble_eq_true rfl) dL_law_996 ?_
  refine x_aload_n hF dL_law_999 rfl rfl ?_
  refine x_aload_n hF dL_law_1000 rfl rfl ?_
  refine x_iload hF dL_law_1001 rfl ?_
  refine x_iconst (v := (1 : Int32)) hF dL_law_1003 (by decide) ?_
  refine x_iadd hF dL_law_1004 ?_
  refine x_scr (kk := 1) hF hX (by omega) hL (by decide) dL_law_1005 ?_
  obtain ⟨r2, S2, hcall, h⟩ := ob_some h
  refine x_cVi hF hN hR (ctX8_fate hF.tr hcall) mwX8_fate miX8_fate sh75 ck7 (by decide) tw_1307 ⟨by omega, by decide⟩ rfl rfl (Nat.le_of_ble_eq_true rfl) dL_law_1006 ?_
  obtain ⟨hg, h⟩ := og_some h
  refine x_icmp_eq (tgt := 2066) hF dL_law_1009 (by decide) (fun _ => ?_) (fun hc => absurd hg hc)
  obtain rfl := Option.some.inj h
  exact x_wid (by omega) (x_sub kk ⟨rfl, rfl, rfl, rfl, rfl, trivial⟩)
noncomputable def LS_15 (a b c : Int32) (S : St) : Option St :=
  ob (X7_loadAt a S) (fun r1 S1 => ob (X8_loadAt a S1) (fun r2 S2 => og (r1 = r2) (some S2)))
set_option maxHeartbeats 4000000 in
set_option maxRecDepth 20000 in
theorem xL_case15 {F : Cx} {u U bb L i : Nat} {xs : Nat → Int32} (hF : Ok F cL_law RL) (hN : nLF F 7) (hR : RmF F 10 U) (hX : Scr F bb L xs) (hL : L ≤ 2048) (hi : i + 3 < L) (hu : u + 3 ≤ U) {S S9 : St} (h : LS_15 (xs (i + 1)) (xs (i + 2)) (xs (i + 3)) S = some S9) (kk : X F (u + 3) 2066 [(0, .ref bb), (1, .ref (gA F 0)), (2, .ref (gA F 75)), (3, .ref (gA F 90)), (4, .int (nI i))] [] S9) : X F u 1014 [(0, .ref bb), (1, .ref (gA F 0)), (2, .ref (gA F 75)), (3, .ref (gA F 90)), (4, .int (nI i))] [] S := by
  unfold LS_15 at h
  refine x_aload_n hF dL_law_1014 rfl rfl ?_
  refine x_aload_n hF dL_law_1015 rfl rfl ?_
  refine x_iload hF dL_law_1016 rfl ?_
  refine x_iconst (v := (1 : Int32)) hF dL_law_1018 (by decide) ?_
  refine x_iadd hF dL_law_1019 ?_
  refine x_scr (kk := 1) hF hX (by omega) hL (by decide) dL_law_1020 ?_
  obtain ⟨r1, S1, hcall, h⟩ := ob_some h
  refine x_cVi hF hN hR (ctX7_loadAt hF.tr hcall) mwX7_loadAt miX7_loadAt sh0 ck6 (by decide) tw_329 ⟨by omega, by decide⟩ rfl rfl (Nat.le_of_ble_eq_true rfl) dL_law_1021 ?_
  refine x_aload_n hF dL_law_1024 rfl rfl ?_
  refine x_aload_n hF dL_law_1025 rfl rfl ?_
  refine x_iload hF dL_law_1026 rfl ?_
  refine x_iconst (v := (1 : Int32)) hF dL_law_1028 (by decide) ?_
  refine x_iadd hF dL_law_1029 ?_
  refine x_scr (kk := 1) hF hX (by omega) hL (by decide) dL_law_1030 ?_
  obtain ⟨r2, S2, hcall, h⟩ := ob_some h
  refine x_cVi hF hN hR (ctX8_loadAt hF.tr hcall) mwX8_loadAt miX8_loadAt sh75 ck7 (by decide) tw_1311 ⟨by omega, by decide⟩ rfl rfl (Nat.le_of_ble_eq_true rfl) dL_law_1031 ?_
  obtain ⟨hg, h⟩ := og_some h
  refine x_icmp_eq (tgt := 2066) hF dL_law_1034 (by decide) (fun _ => ?_) (fun hc => absurd hg hc)
  obtain rfl := Option.some.inj h
  exact x_wid (by omega) (x_sub kk ⟨rfl, rfl, rfl, rfl, rfl, trivial⟩)
noncomputable def LS_16 (a b c : Int32) (S : St) : Option St :=
  ob (X7_peak  S) (fun r1 S1 => ob (X8_peak  S1) (fun r2 S2 => og (r1 = r2) (some S2)))
set_option maxHeartbeats 4000000 in
set_option maxRecDepth 20000 in
theorem xL_case16 {F : Cx} {u U bb L i : Nat} {xs : Nat → Int32} (hF : Ok F cL_law RL) (hN : nLF F 7) (hR : RmF F 10 U) (hX : Scr F bb L xs) (hL : L ≤ 2048) (hi : i + 3 < L) (hu : u + 3 ≤ U) {S S9 : St} (h : LS_16 (xs (i + 1)) (xs (i + 2)) (xs (i + 3)) S = some S9) (kk : X F (u + 3) 2066 [(0, .ref bb), (1, .ref (gA F 0)), (2, .ref (gA F 75)), (3, .ref (gA F 90)), (4, .int (nI i))] [] S9) : X F u 1039 [(0, .ref bb), (1, .ref (gA F 0)), (2, .ref (gA F 75)), (3, .ref (gA F 90)), (4, .int (nI i))] [] S := by
  unfold LS_16 at h
  refine x_aload_n hF dL_law_1039 rfl rfl ?_
  obtain ⟨r1, S1, hcall, h⟩ := ob_some h
  refine x_cVi hF hN hR (ctX7_peak hF.tr hcall) mwX7_peak miX7_peak sh0 ck6 (by decide) tw_340 ⟨by omega, by decide⟩ rfl rfl (Nat.le_of_ble_eq_true rfl) dL_law_1040 ?_
  refine x_aload_n hF dL_law_1043 rfl rfl ?_
  obtain ⟨r2, S2, hcall, h⟩ := ob_some h
  refine x_cVi hF hN hR (ctX8_peak hF.tr hcall) mwX8_peak miX8_peak sh75 ck7 (by decide) tw_1315 ⟨by omega, by decide⟩ rfl rfl (Nat.le_of_ble_eq_true rfl) dL_law_1044 ?_
  obtain ⟨hg, h⟩ := og_some h
  refine x_icmp_eq (tgt := 2066) hF dL_law_1047 (by decide) (fun _ => ?_) (fun hc => absurd hg hc)
  obtain rfl := Option.some.inj h
  exact x_wid (by omega) (x_sub kk ⟨rfl, rfl, rfl, rfl, rfl, trivial⟩)
noncomputable def LS_17 (a b c : Int32) (S : St) : Option St :=
  ob (X7_dropped a S) (fun r1 S1 => ob (X8_dropped a S1) (fun r2 S2 => og (r1 = r2) (some S2)))
set_option maxHeartbeats 4000000 in
set_option maxRecDepth 20000 in
theorem xL_case17 {F : Cx} {u U bb L i : Nat} {xs : Nat → Int32} (hF : Ok F cL_law RL) (hN : nLF F 7) (hR : RmF F 10 U) (hX : Scr F bb L xs) (hL : L ≤ 2048) (hi : i + 3 < L) (hu : u + 3 ≤ U) {S S9 : St} (h : LS_17 (xs (i + 1)) (xs (i + 2)) (xs (i + 3)) S = some S9) (kk : X F (u + 3) 2066 [(0, .ref bb), (1, .ref (gA F 0)), (2, .ref (gA F 75)), (3, .ref (gA F 90)), (4, .int (nI i))] [] S9) : X F u 1052 [(0, .ref bb), (1, .ref (gA F 0)), (2, .ref (gA F 75)), (3, .ref (gA F 90)), (4, .int (nI i))] [] S := by
  unfold LS_17 at h
  refine x_aload_n hF dL_law_1052 rfl rfl ?_
  refine x_aload_n hF dL_law_1053 rfl rfl ?_
  refine x_iload hF dL_law_1054 rfl ?_
  refine x_iconst (v := (1 : Int32)) hF dL_law_1056 (by decide) ?_
  refine x_iadd hF dL_law_1057 ?_
  refine x_scr (kk := 1) hF hX (by omega) hL (by decide) dL_law_1058 ?_
  obtain ⟨r1, S1, hcall, h⟩ := ob_some h
  refine x_cVi hF hN hR (ctX7_dropped hF.tr hcall) mwX7_dropped miX7_dropped sh0 ck6 (by decide) tw_351 ⟨by omega, by decide⟩ rfl rfl (Nat.le_of_ble_eq_true rfl) dL_law_1059 ?_
  refine x_aload_n hF dL_law_1062 rfl rfl ?_
  refine x_aload_n hF dL_law_1063 rfl rfl ?_
  refine x_iload hF dL_law_1064 rfl ?_
  refine x_iconst (v := (1 : Int32)) hF dL_law_1066 (by decide) ?_
  refine x_iadd hF dL_law_1067 ?_
  refine x_scr (kk := 1) hF hX (by omega) hL (by decide) dL_law_1068 ?_
  obtain ⟨r2, S2, hcall, h⟩ := ob_some h
  refine x_cVi hF hN hR (ctX8_dropped hF.tr hcall) mwX8_dropped miX8_dropped sh75 ck7 (by decide) tw_1319 ⟨by omega, by decide⟩ rfl rfl (Nat.le_of_ble_eq_true rfl) dL_law_1069 ?_
  obtain ⟨hg, h⟩ := og_some h
  refine x_icmp_eq (tgt := 2066) hF dL_law_1072 (by decide) (fun _ => ?_) (fun hc => absurd hg hc)
  obtain rfl := Option.some.inj h
  exact x_wid (by omega) (x_sub kk ⟨rfl, rfl, rfl, rfl, rfl, trivial⟩)
noncomputable def LS_18 (a b c : Int32) (S : St) : Option St :=
  ob (L_worth a S) (fun k1 S1 => ob (X8_worth a S1) (fun r2 S2 => ob (X8_thrown  S2) (fun r3 S3 => og (r3 = k1) (oi (k1 = 0) (og (lg_cmp (gl S3 90 0) r2.toInt64 = 0) (some S3)) (some S3)))))
set_option maxHeartbeats 4000000 in
set_option maxRecDepth 20000 in
theorem xL_case18 {F : Cx} {u U bb L i : Nat} {xs : Nat → Int32} (hF : Ok F cL_law RL) (hN : nLF F 7) (hR : RmF F 10 U) (hX : Scr F bb L xs) (hL : L ≤ 2048) (hi : i + 3 < L) (hu : u + 3 ≤ U) {S S9 : St} (h : LS_18 (xs (i + 1)) (xs (i + 2)) (xs (i + 3)) S = some S9) (kk : X F (u + 3) 2066 [(0, .ref bb), (1, .ref (gA F 0)), (2, .ref (gA F 75)), (3, .ref (gA F 90)), (4, .int (nI i))] [] S9) : X F u 1077 [(0, .ref bb), (1, .ref (gA F 0)), (2, .ref (gA F 75)), (3, .ref (gA F 90)), (4, .int (nI i))] [] S := by
  unfold LS_18 at h
  refine x_aload_n hF dL_law_1077 rfl rfl ?_
  refine x_aload_n hF dL_law_1078 rfl rfl ?_
  refine x_iload hF dL_law_1079 rfl ?_
  refine x_iconst (v := (1 : Int32)) hF dL_law_1081 (by decide) ?_
  refine x_iadd hF dL_law_1082 ?_
  refine x_scr (kk := 1) hF hX (by omega) hL (by decide) dL_law_1083 ?_
  refine x_aload_n hF dL_law_1084 rfl rfl ?_
  obtain ⟨k1, S1, hcall, h⟩ := ob_some h
  refine x_cW (n := 3) hF hN hR (cwL_worth hF.tr hcall) tw_832 tw_831 tw_71 ⟨by decide, by decide, by decide⟩ (by decide) tw_830 ⟨by omega, by decide⟩ rfl rfl (Nat.le_of_ble_eq_true rfl) dL_law_1085 ?_
  refine x_istore [(5, _), (0, _), (1, _), (2, _), (3, _), (4, _)] hF hN dL_law_1088 (by decide) rfl ?_
  refine x_aload_n hF dL_law_1090 rfl rfl ?_
  refine x_aload_n hF dL_law_1091 rfl rfl ?_
  refine x_iload hF dL_law_1092 rfl ?_
  refine x_iconst (v := (1 : Int32)) hF dL_law_1094 (by decide) ?_
  refine x_iadd hF dL_law_1095 ?_
  refine x_scr (kk := 1) hF hX (by omega) hL (by decide) dL_law_1096 ?_
  obtain ⟨r2, S2, hcall, h⟩ := ob_some h
  refine x_cVi hF hN hR (ctX8_worth hF.tr hcall) mwX8_worth miX8_worth sh75 ck7 (by decide) tw_1323 ⟨by omega, by decide⟩ rfl rfl (Nat.le_of_ble_eq_true rfl) dL_law_1097 ?_
  refine x_istore [(6, _), (5, _), (0, _), (1, _), (2, _), (3, _), (4, _)] hF hN dL_law_1100 (by decide) rfl ?_
  refine x_aload_n hF dL_law_1102 rfl rfl ?_
  obtain ⟨r3, S3, hcall, h⟩ := ob_some h
  refine x_cVi hF hN hR (ctX8_thrown hF.tr hcall) mwX8_thrown miX8_thrown sh75 ck7 (by decide) tw_1136 ⟨by omega, by decide⟩ rfl rfl (Nat.le_of_ble_eq_true rfl) dL_law_1103 ?_
  refine x_iload hF dL_law_1106 rfl ?_
  obtain ⟨hg, h⟩ := og_some h
  refine x_icmp_eq (tgt := 1113) hF dL_law_1108 (by decide) (fun _ => ?_) (fun hc => absurd hg hc)
  refine x_iload hF dL_law_1113 rfl ?_
  refine x_if_ne (tgt := 1130) hF dL_law_1115 (by decide) (fun hc => ?_) (fun hc => ?_)
  · have h := oi_neg hc h
    refine x_goto (tgt := 2066) hF dL_law_1130 (by decide) ?_
    obtain rfl := Option.some.inj h
    exact x_wid (by omega) (x_sub kk ⟨rfl, rfl, rfl, rfl, rfl, trivial⟩)
  have h := oi_pos hc h
  refine x_aload_n hF dL_law_1118 rfl rfl ?_
  refine x_iconst (v := (0 : Int32)) hF dL_law_1119 (by decide) ?_
  refine x_lald (j := 0) hF sh90 (by decide) (by decide) (by decide) dL_law_1120 ?_
  refine x_iload hF dL_law_1121 rfl ?_
  refine x_i2l hF dL_law_1123 ?_
  refine x_lcmp hF dL_law_1124 ?_
  obtain ⟨hg, h⟩ := og_some h
  refine x_if_eq (tgt := 1130) hF dL_law_1125 (by decide) (fun _ => ?_) (fun hc => absurd hg hc)
  refine x_goto (tgt := 2066) hF dL_law_1130 (by decide) ?_
  obtain rfl := Option.some.inj h
  exact x_wid (by omega) (x_sub kk ⟨rfl, rfl, rfl, rfl, rfl, trivial⟩)
noncomputable def LS_19 (a b c : Int32) (S : St) : Option St :=
  ob (L_worthFor a b S) (fun k1 S1 => ob (X8_worthFor a b S1) (fun r2 S2 => ob (X8_thrown  S2) (fun r3 S3 => og (r3 = k1) (oi (k1 = 0) (og (lg_cmp (gl S3 90 0) r2.toInt64 = 0) (some S3)) (some S3)))))
set_option maxHeartbeats 4000000 in
set_option maxRecDepth 20000 in
theorem xL_case19 {F : Cx} {u U bb L i : Nat} {xs : Nat → Int32} (hF : Ok F cL_law RL) (hN : nLF F 7) (hR : RmF F 10 U) (hX : Scr F bb L xs) (hL : L ≤ 2048) (hi : i + 3 < L) (hu : u + 3 ≤ U) {S S9 : St} (h : LS_19 (xs (i + 1)) (xs (i + 2)) (xs (i + 3)) S = some S9) (kk : X F (u + 3) 2066 [(0, .ref bb), (1, .ref (gA F 0)), (2, .ref (gA F 75)), (3, .ref (gA F 90)), (4, .int (nI i))] [] S9) : X F u 1133 [(0, .ref bb), (1, .ref (gA F 0)), (2, .ref (gA F 75)), (3, .ref (gA F 90)), (4, .int (nI i))] [] S := by
  unfold LS_19 at h
  refine x_aload_n hF dL_law_1133 rfl rfl ?_
  refine x_aload_n hF dL_law_1134 rfl rfl ?_
  refine x_iload hF dL_law_1135 rfl ?_
  refine x_iconst (v := (1 : Int32)) hF dL_law_1137 (by decide) ?_
  refine x_iadd hF dL_law_1138 ?_
  refine x_scr (kk := 1) hF hX (by omega) hL (by decide) dL_law_1139 ?_
  refine x_aload_n hF dL_law_1140 rfl rfl ?_
  refine x_iload hF dL_law_1141 rfl ?_
  refine x_iconst (v := (2 : Int32)) hF dL_law_1143 (by decide) ?_
  refine x_iadd hF dL_law_1144 ?_
  refine x_scr (kk := 2) hF hX (by omega) hL (by decide) dL_law_1145 ?_
  refine x_aload_n hF dL_law_1146 rfl rfl ?_
  obtain ⟨k1, S1, hcall, h⟩ := ob_some h
  refine x_cW (n := 4) hF hN hR (cwL_worthFor hF.tr hcall) tw_839 tw_838 tw_71 ⟨by decide, by decide, by decide⟩ (by decide) tw_837 ⟨by omega, by decide⟩ rfl rfl (Nat.le_of_ble_eq_true rfl) dL_law_1147 ?_
  refine x_istore [(5, _), (0, _), (1, _), (2, _), (3, _), (4, _)] hF hN dL_law_1150 (by decide) rfl ?_
  refine x_aload_n hF dL_law_1152 rfl rfl ?_
  refine x_aload_n hF dL_law_1153 rfl rfl ?_
  refine x_iload hF dL_law_1154 rfl ?_
  refine x_iconst (v := (1 : Int32)) hF dL_law_1156 (by decide) ?_
  refine x_iadd hF dL_law_1157 ?_
  refine x_scr (kk := 1) hF hX (by omega) hL (by decide) dL_law_1158 ?_
  refine x_aload_n hF dL_law_1159 rfl rfl ?_
  refine x_iload hF dL_law_1160 rfl ?_
  refine x_iconst (v := (2 : Int32)) hF dL_law_1162 (by decide) ?_
  refine x_iadd hF dL_law_1163 ?_
  refine x_scr (kk := 2) hF hX (by omega) hL (by decide) dL_law_1164 ?_
  obtain ⟨r2, S2, hcall, h⟩ := ob_some h
  refine x_cVi hF hN hR (ctX8_worthFor hF.tr hcall) mwX8_worthFor miX8_worthFor sh75 ck7 (by decide) tw_1331 ⟨by omega, by decide⟩ rfl rfl (Nat.le_of_ble_eq_true rfl) dL_law_1165 ?_
  refine x_istore [(6, _), (5, _), (0, _), (1, _), (2, _), (3, _), (4, _)] hF hN dL_law_1168 (by decide) rfl ?_
  refine x_aload_n hF dL_law_1170 rfl rfl ?_
  obtain ⟨r3, S3, hcall, h⟩ := ob_some h
  refine x_cVi hF hN hR (ctX8_thrown hF.tr hcall) mwX8_thrown miX8_thrown sh75 ck7 (by decide) tw_1136 ⟨by omega, by decide⟩ rfl rfl (Nat.le_of_ble_eq_true rfl) dL_law_1171 ?_
  refine x_iload hF dL_law_1174 rfl ?_
  obtain ⟨hg, h⟩ := og_some h
  refine x_icmp_eq (tgt := 1181) hF dL_law_1176 (by decide) (fun _ => ?_) (fun hc => absurd hg hc)
  refine x_iload hF dL_law_1181 rfl ?_
  refine x_if_ne (tgt := 1198) hF dL_law_1183 (by decide) (fun hc => ?_) (fun hc => ?_)
  · have h := oi_neg hc h
    refine x_goto (tgt := 2066) hF dL_law_1198 (by decide) ?_
    obtain rfl := Option.some.inj h
    exact x_wid (by omega) (x_sub kk ⟨rfl, rfl, rfl, rfl, rfl, trivial⟩)
  have h := oi_pos hc h
  refine x_aload_n hF dL_law_1186 rfl rfl ?_
  refine x_iconst (v := (0 : Int32)) hF dL_law_1187 (by decide) ?_
  refine x_lald (j := 0) hF sh90 (by decide) (by decide) (by decide) dL_law_1188 ?_
  refine x_iload hF dL_law_1189 rfl ?_
  refine x_i2l hF dL_law_1191 ?_
  refine x_lcmp hF dL_law_1192 ?_
  obtain ⟨hg, h⟩ := og_some h
  refine x_if_eq (tgt := 1198) hF dL_law_1193 (by decide) (fun _ => ?_) (fun hc => absurd hg hc)
  refine x_goto (tgt := 2066) hF dL_law_1198 (by decide) ?_
  obtain rfl := Option.some.inj h
  exact x_wid (by omega) (x_sub kk ⟨rfl, rfl, rfl, rfl, rfl, trivial⟩)
noncomputable def LS_20 (a b c : Int32) (S : St) : Option St :=
  ob (L_contribution a b S) (fun k1 S1 => ob (X8_contribution a b S1) (fun r2 S2 => ob (X8_thrown  S2) (fun r3 S3 => og (r3 = k1) (oi (k1 = 0) (og (lg_cmp (gl S3 90 0) r2.toInt64 = 0) (some S3)) (some S3)))))
set_option maxHeartbeats 4000000 in
set_option maxRecDepth 20000 in
theorem xL_case20 {F : Cx} {u U bb L i : Nat} {xs : Nat → Int32} (hF : Ok F cL_law RL) (hN : nLF F 7) (hR : RmF F 10 U) (hX : Scr F bb L xs) (hL : L ≤ 2048) (hi : i + 3 < L) (hu : u + 3 ≤ U) {S S9 : St} (h : LS_20 (xs (i + 1)) (xs (i + 2)) (xs (i + 3)) S = some S9) (kk : X F (u + 3) 2066 [(0, .ref bb), (1, .ref (gA F 0)), (2, .ref (gA F 75)), (3, .ref (gA F 90)), (4, .int (nI i))] [] S9) : X F u 1201 [(0, .ref bb), (1, .ref (gA F 0)), (2, .ref (gA F 75)), (3, .ref (gA F 90)), (4, .int (nI i))] [] S := by
  unfold LS_20 at h
  refine x_aload_n hF dL_law_1201 rfl rfl ?_
  refine x_aload_n hF dL_law_1202 rfl rfl ?_
  refine x_iload hF dL_law_1203 rfl ?_
  refine x_iconst (v := (1 : Int32)) hF dL_law_1205 (by decide) ?_
  refine x_iadd hF dL_law_1206 ?_
  refine x_scr (kk := 1) hF hX (by omega) hL (by decide) dL_law_1207 ?_
  refine x_aload_n hF dL_law_1208 rfl rfl ?_
  refine x_iload hF dL_law_1209 rfl ?_
  refine x_iconst (v := (2 : Int32)) hF dL_law_1211 (by decide) ?_
  refine x_iadd hF dL_law_1212 ?_
  refine x_scr (kk := 2) hF hX (by omega) hL (by decide) dL_law_1213 ?_
  refine x_aload_n hF dL_law_1214 rfl rfl ?_
  obtain ⟨k1, S1, hcall, h⟩ := ob_some h
  refine x_cW (n := 4) hF hN hR (cwL_contribution hF.tr hcall) tw_846 tw_845 tw_71 ⟨by decide, by decide, by decide⟩ (by decide) tw_844 ⟨by omega, by decide⟩ rfl rfl (Nat.le_of_ble_eq_true rfl) dL_law_1215 ?_
  refine x_istore [(5, _), (0, _), (1, _), (2, _), (3, _), (4, _)] hF hN dL_law_1218 (by decide) rfl ?_
  refine x_aload_n hF dL_law_1220 rfl rfl ?_
  refine x_aload_n hF dL_law_1221 rfl rfl ?_
  refine x_iload hF dL_law_1222 rfl ?_
  refine x_iconst (v := (1 : Int32)) hF dL_law_1224 (by decide) ?_
  refine x_iadd hF dL_law_1225 ?_
  refine x_scr (kk := 1) hF hX (by omega) hL (by decide) dL_law_1226 ?_
  refine x_aload_n hF dL_law_1227 rfl rfl ?_
  refine x_iload hF dL_law_1228 rfl ?_
  refine x_iconst (v := (2 : Int32)) hF dL_law_1230 (by decide) ?_
  refine x_iadd hF dL_law_1231 ?_
  refine x_scr (kk := 2) hF hX (by omega) hL (by decide) dL_law_1232 ?_
  obtain ⟨r2, S2, hcall, h⟩ := ob_some h
  refine x_cVi hF hN hR (ctX8_contribution hF.tr hcall) mwX8_contribution miX8_contribution sh75 ck7 (by decide) tw_1335 ⟨by omega, by decide⟩ rfl rfl (Nat.le_of_ble_eq_true rfl) dL_law_1233 ?_
  refine x_istore [(6, _), (5, _), (0, _), (1, _), (2, _), (3, _), (4, _)] hF hN dL_law_1236 (by decide) rfl ?_
  refine x_aload_n hF dL_law_1238 rfl rfl ?_
  obtain ⟨r3, S3, hcall, h⟩ := ob_some h
  refine x_cVi hF hN hR (ctX8_thrown hF.tr hcall) mwX8_thrown miX8_thrown sh75 ck7 (by decide) tw_1136 ⟨by omega, by decide⟩ rfl rfl (Nat.le_of_ble_eq_true rfl) dL_law_1239 ?_
  refine x_iload hF dL_law_1242 rfl ?_
  obtain ⟨hg, h⟩ := og_some h
  refine x_icmp_eq (tgt := 1249) hF dL_law_1244 (by decide) (fun _ => ?_) (fun hc => absurd hg hc)
  refine x_iload hF dL_law_1249 rfl ?_
  refine x_if_ne (tgt := 1266) hF dL_law_1251 (by decide) (fun hc => ?_) (fun hc => ?_)
  · have h := oi_neg hc h
    refine x_goto (tgt := 2066) hF dL_law_1266 (by decide) ?_
    obtain rfl := Option.some.inj h
    exact x_wid (by omega) (x_sub kk ⟨rfl, rfl, rfl, rfl, rfl, trivial⟩)
  have h := oi_pos hc h
  refine x_aload_n hF dL_law_1254 rfl rfl ?_
  refine x_iconst (v := (0 : Int32)) hF dL_law_1255 (by decide) ?_
  refine x_lald (j := 0) hF sh90 (by decide) (by decide) (by decide) dL_law_1256 ?_
  refine x_iload hF dL_law_1257 rfl ?_
  refine x_i2l hF dL_law_1259 ?_
  refine x_lcmp hF dL_law_1260 ?_
  obtain ⟨hg, h⟩ := og_some h
  refine x_if_eq (tgt := 1266) hF dL_law_1261 (by decide) (fun _ => ?_) (fun hc => absurd hg hc)
  refine x_goto (tgt := 2066) hF dL_law_1266 (by decide) ?_
  obtain rfl := Option.some.inj h
  exact x_wid (by omega) (x_sub kk ⟨rfl, rfl, rfl, rfl, rfl, trivial⟩)
noncomputable def LS_21 (a b c : Int32) (S : St) : Option St :=
  ob (L_blame a b S) (fun k1 S1 => ob (X8_blame a b S1) (fun r2 S2 => ob (X8_thrown  S2) (fun r3 S3 => og (r3 = k1) (oi (k1 = 0) (og (lg_cmp (gl S3 90 0) r2.toInt64 = 0) (some S3)) (some S3)))))
set_option maxHeartbeats 4000000 in
set_option maxRecDepth 20000 in
theorem xL_case21 {F : Cx} {u U bb L i : Nat} {xs : Nat → Int32} (hF : Ok F cL_law RL) (hN : nLF F 7) (hR : RmF F 10 U) (hX : Scr F bb L xs) (hL : L ≤ 2048) (hi : i + 3 < L) (hu : u + 3 ≤ U) {S S9 : St} (h : LS_21 (xs (i + 1)) (xs (i + 2)) (xs (i + 3)) S = some S9) (kk : X F (u + 3) 2066 [(0, .ref bb), (1, .ref (gA F 0)), (2, .ref (gA F 75)), (3, .ref (gA F 90)), (4, .int (nI i))] [] S9) : X F u 1269 [(0, .ref bb), (1, .ref (gA F 0)), (2, .ref (gA F 75)), (3, .ref (gA F 90)), (4, .int (nI i))] [] S := by
  unfold LS_21 at h
  refine x_aload_n hF dL_law_1269 rfl rfl ?_
  refine x_aload_n hF dL_law_1270 rfl rfl ?_
  refine x_iload hF dL_law_1271 rfl ?_
  refine x_iconst (v := (1 : Int32)) hF dL_law_1273 (by decide) ?_
  refine x_iadd hF dL_law_1274 ?_
  refine x_scr (kk := 1) hF hX (by omega) hL (by decide) dL_law_1275 ?_
  refine x_aload_n hF dL_law_1276 rfl rfl ?_
  refine x_iload hF dL_law_1277 rfl ?_
  refine x_iconst (v := (2 : Int32)) hF dL_law_1279 (by decide) ?_
  refine x_iadd hF dL_law_1280 ?_
  refine x_scr (kk := 2) hF hX (by omega) hL (by decide) dL_law_1281 ?_
  refine x_aload_n hF dL_law_1282 rfl rfl ?_
  obtain ⟨k1, S1, hcall, h⟩ := ob_some h
  refine x_cW (n := 4) hF hN hR (cwL_blame hF.tr hcall) tw_855 tw_854 tw_71 ⟨by decide, by decide, by decide⟩ (by decide) tw_853 ⟨by omega, by decide⟩ rfl rfl (Nat.le_of_ble_eq_true rfl) dL_law_1283 ?_
  refine x_istore [(5, _), (0, _), (1, _), (2, _), (3, _), (4, _)] hF hN dL_law_1286 (by decide) rfl ?_
  refine x_aload_n hF dL_law_1288 rfl rfl ?_
  refine x_aload_n hF dL_law_1289 rfl rfl ?_
  refine x_iload hF dL_law_1290 rfl ?_
  refine x_iconst (v := (1 : Int32)) hF dL_law_1292 (by decide) ?_
  refine x_iadd hF dL_law_1293 ?_
  refine x_scr (kk := 1) hF hX (by omega) hL (by decide) dL_law_1294 ?_
  refine x_aload_n hF dL_law_1295 rfl rfl ?_
  refine x_iload hF dL_law_1296 rfl ?_
  refine x_iconst (v := (2 : Int32)) hF dL_law_1298 (by decide) ?_
  refine x_iadd hF dL_law_1299 ?_
  refine x_scr (kk := 2) hF hX (by omega) hL (by decide) dL_law_1300 ?_
  obtain ⟨r2, S2, hcall, h⟩ := ob_some h
  refine x_cVi hF hN hR (ctX8_blame hF.tr hcall) mwX8_blame miX8_blame sh75 ck7 (by decide) tw_1339 ⟨by omega, by decide⟩ rfl rfl (Nat.le_of_ble_eq_true rfl) dL_law_1301 ?_
  refine x_istore [(6, _), (5, _), (0, _), (1, _), (2, _), (3, _), (4, _)] hF hN dL_law_1304 (by decide) rfl ?_
  refine x_aload_n hF dL_law_1306 rfl rfl ?_
  obtain ⟨r3, S3, hcall, h⟩ := ob_some h
  refine x_cVi hF hN hR (ctX8_thrown hF.tr hcall) mwX8_thrown miX8_thrown sh75 ck7 (by decide) tw_1136 ⟨by omega, by decide⟩ rfl rfl (Nat.le_of_ble_eq_true rfl) dL_law_1307 ?_
  refine x_iload hF dL_law_1310 rfl ?_
  obtain ⟨hg, h⟩ := og_some h
  refine x_icmp_eq (tgt := 1317) hF dL_law_1312 (by decide) (fun _ => ?_) (fun hc => absurd hg hc)
  refine x_iload hF dL_law_1317 rfl ?_
  refine x_if_ne (tgt := 1334) hF dL_law_1319 (by decide) (fun hc => ?_) (fun hc => ?_)
  · have h := oi_neg hc h
    refine x_goto (tgt := 2066) hF dL_law_1334 (by decide) ?_
    obtain rfl := Option.some.inj h
    exact x_wid (by omega) (x_sub kk ⟨rfl, rfl, rfl, rfl, rfl, trivial⟩)
  have h := oi_pos hc h
  refine x_aload_n hF dL_law_1322 rfl rfl ?_
  refine x_iconst (v := (0 : Int32)) hF dL_law_1323 (by decide) ?_
  refine x_lald (j := 0) hF sh90 (by decide) (by decide) (by decide) dL_law_1324 ?_
  refine x_iload hF dL_law_1325 rfl ?_
  refine x_i2l hF dL_law_1327 ?_
  refine x_lcmp hF dL_law_1328 ?_
  obtain ⟨hg, h⟩ := og_some h
  refine x_if_eq (tgt := 1334) hF dL_law_1329 (by decide) (fun _ => ?_) (fun hc => absurd hg hc)
  refine x_goto (tgt := 2066) hF dL_law_1334 (by decide) ?_
  obtain rfl := Option.some.inj h
  exact x_wid (by omega) (x_sub kk ⟨rfl, rfl, rfl, rfl, rfl, trivial⟩)
noncomputable def LS_22 (a b c : Int32) (S : St) : Option St :=
  ob (L_blameFor a b c S) (fun k1 S1 => ob (X8_blameFor a b c S1) (fun r2 S2 => ob (X8_thrown  S2) (fun r3 S3 => og (r3 = k1) (oi (k1 = 0) (og (lg_cmp (gl S3 90 0) r2.toInt64 = 0) (some S3)) (some S3)))))
set_option maxHeartbeats 4000000 in
set_option maxRecDepth 20000 in
theorem xL_case22 {F : Cx} {u U bb L i : Nat} {xs : Nat → Int32} (hF : Ok F cL_law RL) (hN : nLF F 7) (hR : RmF F 10 U) (hX : Scr F bb L xs) (hL : L ≤ 2048) (hi : i + 3 < L) (hu : u + 3 ≤ U) {S S9 : St} (h : LS_22 (xs (i + 1)) (xs (i + 2)) (xs (i + 3)) S = some S9) (kk : X F (u + 3) 2066 [(0, .ref bb), (1, .ref (gA F 0)), (2, .ref (gA F 75)), (3, .ref (gA F 90)), (4, .int (nI i))] [] S9) : X F u 1337 [(0, .ref bb), (1, .ref (gA F 0)), (2, .ref (gA F 75)), (3, .ref (gA F 90)), (4, .int (nI i))] [] S := by
  unfold LS_22 at h
  refine x_aload_n hF dL_law_1337 rfl rfl ?_
  refine x_aload_n hF dL_law_1338 rfl rfl ?_
  refine x_iload hF dL_law_1339 rfl ?_
  refine x_iconst (v := (1 : Int32)) hF dL_law_1341 (by decide) ?_
  refine x_iadd hF dL_law_1342 ?_
  refine x_scr (kk := 1) hF hX (by omega) hL (by decide) dL_law_1343 ?_
  refine x_aload_n hF dL_law_1344 rfl rfl ?_
  refine x_iload hF dL_law_1345 rfl ?_
  refine x_iconst (v := (2 : Int32)) hF dL_law_1347 (by decide) ?_
  refine x_iadd hF dL_law_1348 ?_
  refine x_scr (kk := 2) hF hX (by omega) hL (by decide) dL_law_1349 ?_
  refine x_aload_n hF dL_law_1350 rfl rfl ?_
  refine x_iload hF dL_law_1351 rfl ?_
  refine x_iconst (v := (3 : Int32)) hF dL_law_1353 (by decide) ?_
  refine x_iadd hF dL_law_1354 ?_
  refine x_scr (kk := 3) hF hX (by omega) hL (by decide) dL_law_1355 ?_
  refine x_aload_n hF dL_law_1356 rfl rfl ?_
  obtain ⟨k1, S1, hcall, h⟩ := ob_some h
  refine x_cW (n := 5) hF hN hR (cwL_blameFor hF.tr hcall) tw_892 tw_891 tw_71 ⟨by decide, by decide, by decide⟩ (by decide) tw_890 ⟨by omega, by decide⟩ rfl rfl (Nat.le_of_ble_eq_true rfl) dL_law_1357 ?_
  refine x_istore [(5, _), (0, _), (1, _), (2, _), (3, _), (4, _)] hF hN dL_law_1360 (by decide) rfl ?_
  refine x_aload_n hF dL_law_1362 rfl rfl ?_
  refine x_aload_n hF dL_law_1363 rfl rfl ?_
  refine x_iload hF dL_law_1364 rfl ?_
  refine x_iconst (v := (1 : Int32)) hF dL_law_1366 (by decide) ?_
  refine x_iadd hF dL_law_1367 ?_
  refine x_scr (kk := 1) hF hX (by omega) hL (by decide) dL_law_1368 ?_
  refine x_aload_n hF dL_law_1369 rfl rfl ?_
  refine x_iload hF dL_law_1370 rfl ?_
  refine x_iconst (v := (2 : Int32)) hF dL_law_1372 (by decide) ?_
  refine x_iadd hF dL_law_1373 ?_
  refine x_scr (kk := 2) hF hX (by omega) hL (by decide) dL_law_1374 ?_
  refine x_aload_n hF dL_law_1375 rfl rfl ?_
  refine x_iload hF dL_law_1376 rfl ?_
  refine x_iconst (v := (3 : Int32)) hF dL_law_1378 (by decide) ?_
  refine x_iadd hF dL_law_1379 ?_
  refine x_scr (kk := 3) hF hX (by omega) hL (by decide) dL_law_1380 ?_
  obtain ⟨r2, S2, hcall, h⟩ := ob_some h
  refine x_cVi hF hN hR (ctX8_blameFor hF.tr hcall) mwX8_blameFor miX8_blameFor sh75 ck7 (by decide) tw_1361 ⟨by omega, by decide⟩ rfl rfl (Nat.le_of_ble_eq_true rfl) dL_law_1381 ?_
  refine x_istore [(6, _), (5, _), (0, _), (1, _), (2, _), (3, _), (4, _)] hF hN dL_law_1384 (by decide) rfl ?_
  refine x_aload_n hF dL_law_1386 rfl rfl ?_
  obtain ⟨r3, S3, hcall, h⟩ := ob_some h
  refine x_cVi hF hN hR (ctX8_thrown hF.tr hcall) mwX8_thrown miX8_thrown sh75 ck7 (by decide) tw_1136 ⟨by omega, by decide⟩ rfl rfl (Nat.le_of_ble_eq_true rfl) dL_law_1387 ?_
  refine x_iload hF dL_law_1390 rfl ?_
  obtain ⟨hg, h⟩ := og_some h
  refine x_icmp_eq (tgt := 1397) hF dL_law_1392 (by decide) (fun _ => ?_) (fun hc => absurd hg hc)
  refine x_iload hF dL_law_1397 rfl ?_
  refine x_if_ne (tgt := 1414) hF dL_law_1399 (by decide) (fun hc => ?_) (fun hc => ?_)
  · have h := oi_neg hc h
    refine x_goto (tgt := 2066) hF dL_law_1414 (by decide) ?_
    obtain rfl := Option.some.inj h
    exact x_wid (by omega) (x_sub kk ⟨rfl, rfl, rfl, rfl, rfl, trivial⟩)
  have h := oi_pos hc h
  refine x_aload_n hF dL_law_1402 rfl rfl ?_
  refine x_iconst (v := (0 : Int32)) hF dL_law_1403 (by decide) ?_
  refine x_lald (j := 0) hF sh90 (by decide) (by decide) (by decide) dL_law_1404 ?_
  refine x_iload hF dL_law_1405 rfl ?_
  refine x_i2l hF dL_law_1407 ?_
  refine x_lcmp hF dL_law_1408 ?_
  obtain ⟨hg, h⟩ := og_some h
  refine x_if_eq (tgt := 1414) hF dL_law_1409 (by decide) (fun _ => ?_) (fun hc => absurd hg hc)
  refine x_goto (tgt := 2066) hF dL_law_1414 (by decide) ?_
  obtain rfl := Option.some.inj h
  exact x_wid (by omega) (x_sub kk ⟨rfl, rfl, rfl, rfl, rfl, trivial⟩)
noncomputable def LS_23 (a b c : Int32) (S : St) : Option St :=
  ob (L_index a b S) (fun k1 S1 => ob (X8_index a b S1) (fun r2 S2 => ob (X8_thrown  S2) (fun r3 S3 => og (r3 = k1) (oi (k1 = 0) (og (lg_cmp (gl S3 90 0) r2.toInt64 = 0) (some S3)) (some S3)))))
set_option maxHeartbeats 4000000 in
set_option maxRecDepth 20000 in
theorem xL_case23 {F : Cx} {u U bb L i : Nat} {xs : Nat → Int32} (hF : Ok F cL_law RL) (hN : nLF F 7) (hR : RmF F 10 U) (hX : Scr F bb L xs) (hL : L ≤ 2048) (hi : i + 3 < L) (hu : u + 3 ≤ U) {S S9 : St} (h : LS_23 (xs (i + 1)) (xs (i + 2)) (xs (i + 3)) S = some S9) (kk : X F (u + 3) 2066 [(0, .ref bb), (1, .ref (gA F 0)), (2, .ref (gA F 75)), (3, .ref (gA F 90)), (4, .int (nI i))] [] S9) : X F u 1417 [(0, .ref bb), (1, .ref (gA F 0)), (2, .ref (gA F 75)), (3, .ref (gA F 90)), (4, .int (nI i))] [] S := by
  unfold LS_23 at h
  refine x_aload_n hF dL_law_1417 rfl rfl ?_
  refine x_aload_n hF dL_law_1418 rfl rfl ?_
  refine x_iload hF dL_law_1419 rfl ?_
  refine x_iconst (v := (1 : Int32)) hF dL_law_1421 (by decide) ?_
  refine x_iadd hF dL_law_1422 ?_
  refine x_scr (kk := 1) hF hX (by omega) hL (by decide) dL_law_1423 ?_
  refine x_aload_n hF dL_law_1424 rfl rfl ?_
  refine x_iload hF dL_law_1425 rfl ?_
  refine x_iconst (v := (2 : Int32)) hF dL_law_1427 (by decide) ?_
  refine x_iadd hF dL_law_1428 ?_
  refine x_scr (kk := 2) hF hX (by omega) hL (by decide) dL_law_1429 ?_
  refine x_aload_n hF dL_law_1430 rfl rfl ?_
  obtain ⟨k1, S1, hcall, h⟩ := ob_some h
  refine x_cW (n := 4) hF hN hR (cwL_index hF.tr hcall) tw_899 tw_898 tw_71 ⟨by decide, by decide, by decide⟩ (by decide) tw_897 ⟨by omega, by decide⟩ rfl rfl (Nat.le_of_ble_eq_true rfl) dL_law_1431 ?_
  refine x_istore [(5, _), (0, _), (1, _), (2, _), (3, _), (4, _)] hF hN dL_law_1434 (by decide) rfl ?_
  refine x_aload_n hF dL_law_1436 rfl rfl ?_
  refine x_aload_n hF dL_law_1437 rfl rfl ?_
  refine x_iload hF dL_law_1438 rfl ?_
  refine x_iconst (v := (1 : Int32)) hF dL_law_1440 (by decide) ?_
  refine x_iadd hF dL_law_1441 ?_
  refine x_scr (kk := 1) hF hX (by omega) hL (by decide) dL_law_1442 ?_
  refine x_aload_n hF dL_law_1443 rfl rfl ?_
  refine x_iload hF dL_law_1444 rfl ?_
  refine x_iconst (v := (2 : Int32)) hF dL_law_1446 (by decide) ?_
  refine x_iadd hF dL_law_1447 ?_
  refine x_scr (kk := 2) hF hX (by omega) hL (by decide) dL_law_1448 ?_
  obtain ⟨r2, S2, hcall, h⟩ := ob_some h
  refine x_cVi hF hN hR (ctX8_index hF.tr hcall) mwX8_index miX8_index sh75 ck7 (by decide) tw_1365 ⟨by omega, by decide⟩ rfl rfl (Nat.le_of_ble_eq_true rfl) dL_law_1449 ?_
  refine x_istore [(6, _), (5, _), (0, _), (1, _), (2, _), (3, _), (4, _)] hF hN dL_law_1452 (by decide) rfl ?_
  refine x_aload_n hF dL_law_1454 rfl rfl ?_
  obtain ⟨r3, S3, hcall, h⟩ := ob_some h
  refine x_cVi hF hN hR (ctX8_thrown hF.tr hcall) mwX8_thrown miX8_thrown sh75 ck7 (by decide) tw_1136 ⟨by omega, by decide⟩ rfl rfl (Nat.le_of_ble_eq_true rfl) dL_law_1455 ?_
  refine x_iload hF dL_law_1458 rfl ?_
  obtain ⟨hg, h⟩ := og_some h
  refine x_icmp_eq (tgt := 1465) hF dL_law_1460 (by decide) (fun _ => ?_) (fun hc => absurd hg hc)
  refine x_iload hF dL_law_1465 rfl ?_
  refine x_if_ne (tgt := 1482) hF dL_law_1467 (by decide) (fun hc => ?_) (fun hc => ?_)
  · have h := oi_neg hc h
    refine x_goto (tgt := 2066) hF dL_law_1482 (by decide) ?_
    obtain rfl := Option.some.inj h
    exact x_wid (by omega) (x_sub kk ⟨rfl, rfl, rfl, rfl, rfl, trivial⟩)
  have h := oi_pos hc h
  refine x_aload_n hF dL_law_1470 rfl rfl ?_
  refine x_iconst (v := (0 : Int32)) hF dL_law_1471 (by decide) ?_
  refine x_lald (j := 0) hF sh90 (by decide) (by decide) (by decide) dL_law_1472 ?_
  refine x_iload hF dL_law_1473 rfl ?_
  refine x_i2l hF dL_law_1475 ?_
  refine x_lcmp hF dL_law_1476 ?_
  obtain ⟨hg, h⟩ := og_some h
  refine x_if_eq (tgt := 1482) hF dL_law_1477 (by decide) (fun _ => ?_) (fun hc => absurd hg hc)
  refine x_goto (tgt := 2066) hF dL_law_1482 (by decide) ?_
  obtain rfl := Option.some.inj h
  exact x_wid (by omega) (x_sub kk ⟨rfl, rfl, rfl, rfl, rfl, trivial⟩)
noncomputable def LS_24 (a b c : Int32) (S : St) : Option St :=
  ob (L_interaction a b c S) (fun k1 S1 => ob (X8_interaction a b c S1) (fun r2 S2 => ob (X8_thrown  S2) (fun r3 S3 => og (r3 = k1) (oi (k1 = 0) (og (lg_cmp (gl S3 90 0) r2.toInt64 = 0) (some S3)) (some S3)))))
set_option maxHeartbeats 4000000 in
set_option maxRecDepth 20000 in
theorem xL_case24 {F : Cx} {u U bb L i : Nat} {xs : Nat → Int32} (hF : Ok F cL_law RL) (hN : nLF F 7) (hR : RmF F 10 U) (hX : Scr F bb L xs) (hL : L ≤ 2048) (hi : i + 3 < L) (hu : u + 3 ≤ U) {S S9 : St} (h : LS_24 (xs (i + 1)) (xs (i + 2)) (xs (i + 3)) S = some S9) (kk : X F (u + 3) 2066 [(0, .ref bb), (1, .ref (gA F 0)), (2, .ref (gA F 75)), (3, .ref (gA F 90)), (4, .int (nI i))] [] S9) : X F u 1485 [(0, .ref bb), (1, .ref (gA F 0)), (2, .ref (gA F 75)), (3, .ref (gA F 90)), (4, .int (nI i))] [] S := by
  unfold LS_24 at h
  refine x_aload_n hF dL_law_1485 rfl rfl ?_
  refine x_aload_n hF dL_law_1486 rfl rfl ?_
  refine x_iload hF dL_law_1487 rfl ?_
  refine x_iconst (v := (1 : Int32)) hF dL_law_1489 (by decide) ?_
  refine x_iadd hF dL_law_1490 ?_
  refine x_scr (kk := 1) hF hX (by omega) hL (by decide) dL_law_1491 ?_
  refine x_aload_n hF dL_law_1492 rfl rfl ?_
  refine x_iload hF dL_law_1493 rfl ?_
  refine x_iconst (v := (2 : Int32)) hF dL_law_1495 (by decide) ?_
  refine x_iadd hF dL_law_1496 ?_
  refine x_scr (kk := 2) hF hX (by omega) hL (by decide) dL_law_1497 ?_
  refine x_aload_n hF dL_law_1498 rfl rfl ?_
  refine x_iload hF dL_law_1499 rfl ?_
  refine x_iconst (v := (3 : Int32)) hF dL_law_1501 (by decide) ?_
  refine x_iadd hF dL_law_1502 ?_
  refine x_scr (kk := 3) hF hX (by omega) hL (by decide) dL_law_1503 ?_
  refine x_aload_n hF dL_law_1504 rfl rfl ?_
  obtain ⟨k1, S1, hcall, h⟩ := ob_some h
  refine x_cW (n := 5) hF hN hR (cwL_interaction hF.tr hcall) tw_910 tw_909 tw_71 ⟨by decide, by decide, by decide⟩ (by decide) tw_908 ⟨by omega, by decide⟩ rfl rfl (Nat.le_of_ble_eq_true rfl) dL_law_1505 ?_
  refine x_istore [(5, _), (0, _), (1, _), (2, _), (3, _), (4, _)] hF hN dL_law_1508 (by decide) rfl ?_
  refine x_aload_n hF dL_law_1510 rfl rfl ?_
  refine x_aload_n hF dL_law_1511 rfl rfl ?_
  refine x_iload hF dL_law_1512 rfl ?_
  refine x_iconst (v := (1 : Int32)) hF dL_law_1514 (by decide) ?_
  refine x_iadd hF dL_law_1515 ?_
  refine x_scr (kk := 1) hF hX (by omega) hL (by decide) dL_law_1516 ?_
  refine x_aload_n hF dL_law_1517 rfl rfl ?_
  refine x_iload hF dL_law_1518 rfl ?_
  refine x_iconst (v := (2 : Int32)) hF dL_law_1520 (by decide) ?_
  refine x_iadd hF dL_law_1521 ?_
  refine x_scr (kk := 2) hF hX (by omega) hL (by decide) dL_law_1522 ?_
  refine x_aload_n hF dL_law_1523 rfl rfl ?_
  refine x_iload hF dL_law_1524 rfl ?_
  refine x_iconst (v := (3 : Int32)) hF dL_law_1526 (by decide) ?_
  refine x_iadd hF dL_law_1527 ?_
  refine x_scr (kk := 3) hF hX (by omega) hL (by decide) dL_law_1528 ?_
  obtain ⟨r2, S2, hcall, h⟩ := ob_some h
  refine x_cVi hF hN hR (ctX8_interaction hF.tr hcall) mwX8_interaction miX8_interaction sh75 ck7 (by decide) tw_1370 ⟨by omega, by decide⟩ rfl rfl (Nat.le_of_ble_eq_true rfl) dL_law_1529 ?_
  refine x_istore [(6, _), (5, _), (0, _), (1, _), (2, _), (3, _), (4, _)] hF hN dL_law_1532 (by decide) rfl ?_
  refine x_aload_n hF dL_law_1534 rfl rfl ?_
  obtain ⟨r3, S3, hcall, h⟩ := ob_some h
  refine x_cVi hF hN hR (ctX8_thrown hF.tr hcall) mwX8_thrown miX8_thrown sh75 ck7 (by decide) tw_1136 ⟨by omega, by decide⟩ rfl rfl (Nat.le_of_ble_eq_true rfl) dL_law_1535 ?_
  refine x_iload hF dL_law_1538 rfl ?_
  obtain ⟨hg, h⟩ := og_some h
  refine x_icmp_eq (tgt := 1545) hF dL_law_1540 (by decide) (fun _ => ?_) (fun hc => absurd hg hc)
  refine x_iload hF dL_law_1545 rfl ?_
  refine x_if_ne (tgt := 1562) hF dL_law_1547 (by decide) (fun hc => ?_) (fun hc => ?_)
  · have h := oi_neg hc h
    refine x_goto (tgt := 2066) hF dL_law_1562 (by decide) ?_
    obtain rfl := Option.some.inj h
    exact x_wid (by omega) (x_sub kk ⟨rfl, rfl, rfl, rfl, rfl, trivial⟩)
  have h := oi_pos hc h
  refine x_aload_n hF dL_law_1550 rfl rfl ?_
  refine x_iconst (v := (0 : Int32)) hF dL_law_1551 (by decide) ?_
  refine x_lald (j := 0) hF sh90 (by decide) (by decide) (by decide) dL_law_1552 ?_
  refine x_iload hF dL_law_1553 rfl ?_
  refine x_i2l hF dL_law_1555 ?_
  refine x_lcmp hF dL_law_1556 ?_
  obtain ⟨hg, h⟩ := og_some h
  refine x_if_eq (tgt := 1562) hF dL_law_1557 (by decide) (fun _ => ?_) (fun hc => absurd hg hc)
  refine x_goto (tgt := 2066) hF dL_law_1562 (by decide) ?_
  obtain rfl := Option.some.inj h
  exact x_wid (by omega) (x_sub kk ⟨rfl, rfl, rfl, rfl, rfl, trivial⟩)
noncomputable def LS_25 (a b c : Int32) (S : St) : Option St :=
  ob (L_ranked a S) (fun k1 S1 => ob (X8_ranked a S1) (fun r2 S2 => ob (X8_thrown  S2) (fun r3 S3 => og (r3 = k1) (oi (k1 = 0) (og (lg_cmp (gl S3 90 0) r2.toInt64 = 0) (some S3)) (some S3)))))
set_option maxHeartbeats 4000000 in
set_option maxRecDepth 20000 in
theorem xL_case25 {F : Cx} {u U bb L i : Nat} {xs : Nat → Int32} (hF : Ok F cL_law RL) (hN : nLF F 7) (hR : RmF F 10 U) (hX : Scr F bb L xs) (hL : L ≤ 2048) (hi : i + 3 < L) (hu : u + 3 ≤ U) {S S9 : St} (h : LS_25 (xs (i + 1)) (xs (i + 2)) (xs (i + 3)) S = some S9) (kk : X F (u + 3) 2066 [(0, .ref bb), (1, .ref (gA F 0)), (2, .ref (gA F 75)), (3, .ref (gA F 90)), (4, .int (nI i))] [] S9) : X F u 1565 [(0, .ref bb), (1, .ref (gA F 0)), (2, .ref (gA F 75)), (3, .ref (gA F 90)), (4, .int (nI i))] [] S := by
  unfold LS_25 at h
  refine x_aload_n hF dL_law_1565 rfl rfl ?_
  refine x_aload_n hF dL_law_1566 rfl rfl ?_
  refine x_iload hF dL_law_1567 rfl ?_
  refine x_iconst (v := (1 : Int32)) hF dL_law_1569 (by decide) ?_
  refine x_iadd hF dL_law_1570 ?_
  refine x_scr (kk := 1) hF hX (by omega) hL (by decide) dL_law_1571 ?_
  refine x_aload_n hF dL_law_1572 rfl rfl ?_
  obtain ⟨k1, S1, hcall, h⟩ := ob_some h
  refine x_cW (n := 3) hF hN hR (cwL_ranked hF.tr hcall) tw_922 tw_921 tw_71 ⟨by decide, by decide, by decide⟩ (by decide) tw_920 ⟨by omega, by decide⟩ rfl rfl (Nat.le_of_ble_eq_true rfl) dL_law_1573 ?_
  refine x_istore [(5, _), (0, _), (1, _), (2, _), (3, _), (4, _)] hF hN dL_law_1576 (by decide) rfl ?_
  refine x_aload_n hF dL_law_1578 rfl rfl ?_
  refine x_aload_n hF dL_law_1579 rfl rfl ?_
  refine x_iload hF dL_law_1580 rfl ?_
  refine x_iconst (v := (1 : Int32)) hF dL_law_1582 (by decide) ?_
  refine x_iadd hF dL_law_1583 ?_
  refine x_scr (kk := 1) hF hX (by omega) hL (by decide) dL_law_1584 ?_
  obtain ⟨r2, S2, hcall, h⟩ := ob_some h
  refine x_cVi hF hN hR (ctX8_ranked hF.tr hcall) mwX8_ranked miX8_ranked sh75 ck7 (by decide) tw_1375 ⟨by omega, by decide⟩ rfl rfl (Nat.le_of_ble_eq_true rfl) dL_law_1585 ?_
  refine x_istore [(6, _), (5, _), (0, _), (1, _), (2, _), (3, _), (4, _)] hF hN dL_law_1588 (by decide) rfl ?_
  refine x_aload_n hF dL_law_1590 rfl rfl ?_
  obtain ⟨r3, S3, hcall, h⟩ := ob_some h
  refine x_cVi hF hN hR (ctX8_thrown hF.tr hcall) mwX8_thrown miX8_thrown sh75 ck7 (by decide) tw_1136 ⟨by omega, by decide⟩ rfl rfl (Nat.le_of_ble_eq_true rfl) dL_law_1591 ?_
  refine x_iload hF dL_law_1594 rfl ?_
  obtain ⟨hg, h⟩ := og_some h
  refine x_icmp_eq (tgt := 1601) hF dL_law_1596 (by decide) (fun _ => ?_) (fun hc => absurd hg hc)
  refine x_iload hF dL_law_1601 rfl ?_
  refine x_if_ne (tgt := 1618) hF dL_law_1603 (by decide) (fun hc => ?_) (fun hc => ?_)
  · have h := oi_neg hc h
    refine x_goto (tgt := 2066) hF dL_law_1618 (by decide) ?_
    obtain rfl := Option.some.inj h
    exact x_wid (by omega) (x_sub kk ⟨rfl, rfl, rfl, rfl, rfl, trivial⟩)
  have h := oi_pos hc h
  refine x_aload_n hF dL_law_1606 rfl rfl ?_
  refine x_iconst (v := (0 : Int32)) hF dL_law_1607 (by decide) ?_
  refine x_lald (j := 0) hF sh90 (by decide) (by decide) (by decide) dL_law_1608 ?_
  refine x_iload hF dL_law_1609 rfl ?_
  refine x_i2l hF dL_law_1611 ?_
  refine x_lcmp hF dL_law_1612 ?_
  obtain ⟨hg, h⟩ := og_some h
  refine x_if_eq (tgt := 1618) hF dL_law_1613 (by decide) (fun _ => ?_) (fun hc => absurd hg hc)
  refine x_goto (tgt := 2066) hF dL_law_1618 (by decide) ?_
  obtain rfl := Option.some.inj h
  exact x_wid (by omega) (x_sub kk ⟨rfl, rfl, rfl, rfl, rfl, trivial⟩)
noncomputable def LS_26 (a b c : Int32) (S : St) : Option St :=
  ob (L_sampled a b c S) (fun k1 S1 => ob (X8_sampled a b c S1) (fun r2 S2 => ob (X8_thrown  S2) (fun r3 S3 => og (r3 = k1) (oi (k1 = 0) (og (lg_cmp (gl S3 90 0) r2.toInt64 = 0) (some S3)) (some S3)))))
set_option maxHeartbeats 4000000 in
set_option maxRecDepth 20000 in
theorem xL_case26 {F : Cx} {u U bb L i : Nat} {xs : Nat → Int32} (hF : Ok F cL_law RL) (hN : nLF F 7) (hR : RmF F 10 U) (hX : Scr F bb L xs) (hL : L ≤ 2048) (hi : i + 3 < L) (hu : u + 3 ≤ U) {S S9 : St} (h : LS_26 (xs (i + 1)) (xs (i + 2)) (xs (i + 3)) S = some S9) (kk : X F (u + 3) 2066 [(0, .ref bb), (1, .ref (gA F 0)), (2, .ref (gA F 75)), (3, .ref (gA F 90)), (4, .int (nI i))] [] S9) : X F u 1621 [(0, .ref bb), (1, .ref (gA F 0)), (2, .ref (gA F 75)), (3, .ref (gA F 90)), (4, .int (nI i))] [] S := by
  unfold LS_26 at h
  refine x_aload_n hF dL_law_1621 rfl rfl ?_
  refine x_aload_n hF dL_law_1622 rfl rfl ?_
  refine x_iload hF dL_law_1623 rfl ?_
  refine x_iconst (v := (1 : Int32)) hF dL_law_1625 (by decide) ?_
  refine x_iadd hF dL_law_1626 ?_
  refine x_scr (kk := 1) hF hX (by omega) hL (by decide) dL_law_1627 ?_
  refine x_aload_n hF dL_law_1628 rfl rfl ?_
  refine x_iload hF dL_law_1629 rfl ?_
  refine x_iconst (v := (2 : Int32)) hF dL_law_1631 (by decide) ?_
  refine x_iadd hF dL_law_1632 ?_
  refine x_scr (kk := 2) hF hX (by omega) hL (by decide) dL_law_1633 ?_
  refine x_aload_n hF dL_law_1634 rfl rfl ?_
  refine x_iload hF dL_law_1635 rfl ?_
  refine x_iconst (v := (3 : Int32)) hF dL_law_1637 (by decide) ?_
  refine x_iadd hF dL_law_1638 ?_
  refine x_scr (kk := 3) hF hX (by omega) hL (by decide) dL_law_1639 ?_
  refine x_aload_n hF dL_law_1640 rfl rfl ?_
  obtain ⟨k1, S1, hcall, h⟩ := ob_some h
  refine x_cW (n := 5) hF hN hR (cwL_sampled hF.tr hcall) tw_933 tw_932 tw_71 ⟨by decide, by decide, by decide⟩ (by decide) tw_931 ⟨by omega, by decide⟩ rfl rfl (Nat.le_of_ble_eq_true rfl) dL_law_1641 ?_
  refine x_istore [(5, _), (0, _), (1, _), (2, _), (3, _), (4, _)] hF hN dL_law_1644 (by decide) rfl ?_
  refine x_aload_n hF dL_law_1646 rfl rfl ?_
  refine x_aload_n hF dL_law_1647 rfl rfl ?_
  refine x_iload hF dL_law_1648 rfl ?_
  refine x_iconst (v := (1 : Int32)) hF dL_law_1650 (by decide) ?_
  refine x_iadd hF dL_law_1651 ?_
  refine x_scr (kk := 1) hF hX (by omega) hL (by decide) dL_law_1652 ?_
  refine x_aload_n hF dL_law_1653 rfl rfl ?_
  refine x_iload hF dL_law_1654 rfl ?_
  refine x_iconst (v := (2 : Int32)) hF dL_law_1656 (by decide) ?_
  refine x_iadd hF dL_law_1657 ?_
  refine x_scr (kk := 2) hF hX (by omega) hL (by decide) dL_law_1658 ?_
  refine x_aload_n hF dL_law_1659 rfl rfl ?_
  refine x_iload hF dL_law_1660 rfl ?_
  refine x_iconst (v := (3 : Int32)) hF dL_law_1662 (by decide) ?_
  refine x_iadd hF dL_law_1663 ?_
  refine x_scr (kk := 3) hF hX (by omega) hL (by decide) dL_law_1664 ?_
  obtain ⟨r2, S2, hcall, h⟩ := ob_some h
  refine x_cVi hF hN hR (ctX8_sampled hF.tr hcall) mwX8_sampled miX8_sampled sh75 ck7 (by decide) tw_1379 ⟨by omega, by decide⟩ rfl rfl (Nat.le_of_ble_eq_true rfl) dL_law_1665 ?_
  refine x_istore [(6, _), (5, _), (0, _), (1, _), (2, _), (3, _), (4, _)] hF hN dL_law_1668 (by decide) rfl ?_
  refine x_aload_n hF dL_law_1670 rfl rfl ?_
  obtain ⟨r3, S3, hcall, h⟩ := ob_some h
  refine x_cVi hF hN hR (ctX8_thrown hF.tr hcall) mwX8_thrown miX8_thrown sh75 ck7 (by decide) tw_1136 ⟨by omega, by decide⟩ rfl rfl (Nat.le_of_ble_eq_true rfl) dL_law_1671 ?_
  refine x_iload hF dL_law_1674 rfl ?_
  obtain ⟨hg, h⟩ := og_some h
  refine x_icmp_eq (tgt := 1681) hF dL_law_1676 (by decide) (fun _ => ?_) (fun hc => absurd hg hc)
  refine x_iload hF dL_law_1681 rfl ?_
  refine x_if_ne (tgt := 1698) hF dL_law_1683 (by decide) (fun hc => ?_) (fun hc => ?_)
  · have h := oi_neg hc h
    refine x_goto (tgt := 2066) hF dL_law_1698 (by decide) ?_
    obtain rfl := Option.some.inj h
    exact x_wid (by omega) (x_sub kk ⟨rfl, rfl, rfl, rfl, rfl, trivial⟩)
  have h := oi_pos hc h
  refine x_aload_n hF dL_law_1686 rfl rfl ?_
  refine x_iconst (v := (0 : Int32)) hF dL_law_1687 (by decide) ?_
  refine x_lald (j := 0) hF sh90 (by decide) (by decide) (by decide) dL_law_1688 ?_
  refine x_iload hF dL_law_1689 rfl ?_
  refine x_i2l hF dL_law_1691 ?_
  refine x_lcmp hF dL_law_1692 ?_
  obtain ⟨hg, h⟩ := og_some h
  refine x_if_eq (tgt := 1698) hF dL_law_1693 (by decide) (fun _ => ?_) (fun hc => absurd hg hc)
  refine x_goto (tgt := 2066) hF dL_law_1698 (by decide) ?_
  obtain rfl := Option.some.inj h
  exact x_wid (by omega) (x_sub kk ⟨rfl, rfl, rfl, rfl, rfl, trivial⟩)
noncomputable def LS_27 (a b c : Int32) (S : St) : Option St :=
  ob (L_cause a S) (fun k1 S1 => ob (X8_cause a S1) (fun r2 S2 => ob (X8_thrown  S2) (fun r3 S3 => og (r3 = k1) (oi (k1 = 0) (og (lg_cmp (gl S3 90 0) r2.toInt64 = 0) (some S3)) (some S3)))))
set_option maxHeartbeats 4000000 in
set_option maxRecDepth 20000 in
theorem xL_case27 {F : Cx} {u U bb L i : Nat} {xs : Nat → Int32} (hF : Ok F cL_law RL) (hN : nLF F 7) (hR : RmF F 10 U) (hX : Scr F bb L xs) (hL : L ≤ 2048) (hi : i + 3 < L) (hu : u + 3 ≤ U) {S S9 : St} (h : LS_27 (xs (i + 1)) (xs (i + 2)) (xs (i + 3)) S = some S9) (kk : X F (u + 3) 2066 [(0, .ref bb), (1, .ref (gA F 0)), (2, .ref (gA F 75)), (3, .ref (gA F 90)), (4, .int (nI i))] [] S9) : X F u 1701 [(0, .ref bb), (1, .ref (gA F 0)), (2, .ref (gA F 75)), (3, .ref (gA F 90)), (4, .int (nI i))] [] S := by
  unfold LS_27 at h
  refine x_aload_n hF dL_law_1701 rfl rfl ?_
  refine x_aload_n hF dL_law_1702 rfl rfl ?_
  refine x_iload hF dL_law_1703 rfl ?_
  refine x_iconst (v := (1 : Int32)) hF dL_law_1705 (by decide) ?_
  refine x_iadd hF dL_law_1706 ?_
  refine x_scr (kk := 1) hF hX (by omega) hL (by decide) dL_law_1707 ?_
  refine x_aload_n hF dL_law_1708 rfl rfl ?_
  obtain ⟨k1, S1, hcall, h⟩ := ob_some h
  refine x_cW (n := 3) hF hN hR (cwL_cause hF.tr hcall) tw_952 tw_951 tw_71 ⟨by decide, by decide, by decide⟩ (by decide) tw_950 ⟨by omega, by decide⟩ rfl rfl (Nat.le_of_ble_eq_true rfl) dL_law_1709 ?_
  refine x_istore [(5, _), (0, _), (1, _), (2, _), (3, _), (4, _)] hF hN dL_law_1712 (by decide) rfl ?_
  refine x_aload_n hF dL_law_1714 rfl rfl ?_
  refine x_aload_n hF dL_law_1715 rfl rfl ?_
  refine x_iload hF dL_law_1716 rfl ?_
  refine x_iconst (v := (1 : Int32)) hF dL_law_1718 (by decide) ?_
  refine x_iadd hF dL_law_1719 ?_
  refine x_scr (kk := 1) hF hX (by omega) hL (by decide) dL_law_1720 ?_
  obtain ⟨r2, S2, hcall, h⟩ := ob_some h
  refine x_cVi hF hN hR (ctX8_cause hF.tr hcall) mwX8_cause miX8_cause sh75 ck7 (by decide) tw_1391 ⟨by omega, by decide⟩ rfl rfl (Nat.le_of_ble_eq_true rfl) dL_law_1721 ?_
  refine x_istore [(6, _), (5, _), (0, _), (1, _), (2, _), (3, _), (4, _)] hF hN dL_law_1724 (by decide) rfl ?_
  refine x_aload_n hF dL_law_1726 rfl rfl ?_
  obtain ⟨r3, S3, hcall, h⟩ := ob_some h
  refine x_cVi hF hN hR (ctX8_thrown hF.tr hcall) mwX8_thrown miX8_thrown sh75 ck7 (by decide) tw_1136 ⟨by omega, by decide⟩ rfl rfl (Nat.le_of_ble_eq_true rfl) dL_law_1727 ?_
  refine x_iload hF dL_law_1730 rfl ?_
  obtain ⟨hg, h⟩ := og_some h
  refine x_icmp_eq (tgt := 1737) hF dL_law_1732 (by decide) (fun _ => ?_) (fun hc => absurd hg hc)
  refine x_iload hF dL_law_1737 rfl ?_
  refine x_if_ne (tgt := 1754) hF dL_law_1739 (by decide) (fun hc => ?_) (fun hc => ?_)
  · have h := oi_neg hc h
    refine x_goto (tgt := 2066) hF dL_law_1754 (by decide) ?_
    obtain rfl := Option.some.inj h
    exact x_wid (by omega) (x_sub kk ⟨rfl, rfl, rfl, rfl, rfl, trivial⟩)
  have h := oi_pos hc h
  refine x_aload_n hF dL_law_1742 rfl rfl ?_
  refine x_iconst (v := (0 : Int32)) hF dL_law_1743 (by decide) ?_
  refine x_lald (j := 0) hF sh90 (by decide) (by decide) (by decide) dL_law_1744 ?_
  refine x_iload hF dL_law_1745 rfl ?_
  refine x_i2l hF dL_law_1747 ?_
  refine x_lcmp hF dL_law_1748 ?_
  obtain ⟨hg, h⟩ := og_some h
  refine x_if_eq (tgt := 1754) hF dL_law_1749 (by decide) (fun _ => ?_) (fun hc => absurd hg hc)
  refine x_goto (tgt := 2066) hF dL_law_1754 (by decide) ?_
  obtain rfl := Option.some.inj h
  exact x_wid (by omega) (x_sub kk ⟨rfl, rfl, rfl, rfl, rfl, trivial⟩)
noncomputable def LS_28 (a b c : Int32) (S : St) : Option St :=
  ob (L_suspects a S) (fun k1 S1 => ob (X8_suspects a S1) (fun r2 S2 => ob (X8_thrown  S2) (fun r3 S3 => og (r3 = k1) (oi (k1 = 0) (og (lg_cmp (gl S3 90 0) r2.toInt64 = 0) (some S3)) (some S3)))))
set_option maxHeartbeats 4000000 in
set_option maxRecDepth 20000 in
theorem xL_case28 {F : Cx} {u U bb L i : Nat} {xs : Nat → Int32} (hF : Ok F cL_law RL) (hN : nLF F 7) (hR : RmF F 10 U) (hX : Scr F bb L xs) (hL : L ≤ 2048) (hi : i + 3 < L) (hu : u + 3 ≤ U) {S S9 : St} (h : LS_28 (xs (i + 1)) (xs (i + 2)) (xs (i + 3)) S = some S9) (kk : X F (u + 3) 2066 [(0, .ref bb), (1, .ref (gA F 0)), (2, .ref (gA F 75)), (3, .ref (gA F 90)), (4, .int (nI i))] [] S9) : X F u 1757 [(0, .ref bb), (1, .ref (gA F 0)), (2, .ref (gA F 75)), (3, .ref (gA F 90)), (4, .int (nI i))] [] S := by
  unfold LS_28 at h
  refine x_aload_n hF dL_law_1757 rfl rfl ?_
  refine x_aload_n hF dL_law_1758 rfl rfl ?_
  refine x_iload hF dL_law_1759 rfl ?_
  refine x_iconst (v := (1 : Int32)) hF dL_law_1761 (by decide) ?_
  refine x_iadd hF dL_law_1762 ?_
  refine x_scr (kk := 1) hF hX (by omega) hL (by decide) dL_law_1763 ?_
  refine x_aload_n hF dL_law_1764 rfl rfl ?_
  obtain ⟨k1, S1, hcall, h⟩ := ob_some h
  refine x_cW (n := 3) hF hN hR (cwL_suspects hF.tr hcall) tw_971 tw_970 tw_71 ⟨by decide, by decide, by decide⟩ (by decide) tw_969 ⟨by omega, by decide⟩ rfl rfl (Nat.le_of_ble_eq_true rfl) dL_law_1765 ?_
  refine x_istore [(5, _), (0, _), (1, _), (2, _), (3, _), (4, _)] hF hN dL_law_1768 (by decide) rfl ?_
  refine x_aload_n hF dL_law_1770 rfl rfl ?_
  refine x_aload_n hF dL_law_1771 rfl rfl ?_
  refine x_iload hF dL_law_1772 rfl ?_
  refine x_iconst (v := (1 : Int32)) hF dL_law_1774 (by decide) ?_
  refine x_iadd hF dL_law_1775 ?_
  refine x_scr (kk := 1) hF hX (by omega) hL (by decide) dL_law_1776 ?_
  obtain ⟨r2, S2, hcall, h⟩ := ob_some h
  refine x_cVi hF hN hR (ctX8_suspects hF.tr hcall) mwX8_suspects miX8_suspects sh75 ck7 (by decide) tw_1403 ⟨by omega, by decide⟩ rfl rfl (Nat.le_of_ble_eq_true rfl) dL_law_1777 ?_
  refine x_istore [(6, _), (5, _), (0, _), (1, _), (2, _), (3, _), (4, _)] hF hN dL_law_1780 (by decide) rfl ?_
  refine x_aload_n hF dL_law_1782 rfl rfl ?_
  obtain ⟨r3, S3, hcall, h⟩ := ob_some h
  refine x_cVi hF hN hR (ctX8_thrown hF.tr hcall) mwX8_thrown miX8_thrown sh75 ck7 (by decide) tw_1136 ⟨by omega, by decide⟩ rfl rfl (Nat.le_of_ble_eq_true rfl) dL_law_1783 ?_
  refine x_iload hF dL_law_1786 rfl ?_
  obtain ⟨hg, h⟩ := og_some h
  refine x_icmp_eq (tgt := 1793) hF dL_law_1788 (by decide) (fun _ => ?_) (fun hc => absurd hg hc)
  refine x_iload hF dL_law_1793 rfl ?_
  refine x_if_ne (tgt := 1810) hF dL_law_1795 (by decide) (fun hc => ?_) (fun hc => ?_)
  · have h := oi_neg hc h
    refine x_goto (tgt := 2066) hF dL_law_1810 (by decide) ?_
    obtain rfl := Option.some.inj h
    exact x_wid (by omega) (x_sub kk ⟨rfl, rfl, rfl, rfl, rfl, trivial⟩)
  have h := oi_pos hc h
  refine x_aload_n hF dL_law_1798 rfl rfl ?_
  refine x_iconst (v := (0 : Int32)) hF dL_law_1799 (by decide) ?_
  refine x_lald (j := 0) hF sh90 (by decide) (by decide) (by decide) dL_law_1800 ?_
  refine x_iload hF dL_law_1801 rfl ?_
  refine x_i2l hF dL_law_1803 ?_
  refine x_lcmp hF dL_law_1804 ?_
  obtain ⟨hg, h⟩ := og_some h
  refine x_if_eq (tgt := 1810) hF dL_law_1805 (by decide) (fun _ => ?_) (fun hc => absurd hg hc)
  refine x_goto (tgt := 2066) hF dL_law_1810 (by decide) ?_
  obtain rfl := Option.some.inj h
  exact x_wid (by omega) (x_sub kk ⟨rfl, rfl, rfl, rfl, rfl, trivial⟩)
noncomputable def LS_29 (a b c : Int32) (S : St) : Option St :=
  ob (L_capacityFor a S) (fun k1 S1 => ob (X8_capacityFor a S1) (fun r2 S2 => ob (X8_thrown  S2) (fun r3 S3 => og (r3 = k1) (oi (k1 = 0) (og (lg_cmp (gl S3 90 0) r2.toInt64 = 0) (some S3)) (some S3)))))
set_option maxHeartbeats 4000000 in
set_option maxRecDepth 20000 in
theorem xL_case29 {F : Cx} {u U bb L i : Nat} {xs : Nat → Int32} (hF : Ok F cL_law RL) (hN : nLF F 7) (hR : RmF F 10 U) (hX : Scr F bb L xs) (hL : L ≤ 2048) (hi : i + 3 < L) (hu : u + 3 ≤ U) {S S9 : St} (h : LS_29 (xs (i + 1)) (xs (i + 2)) (xs (i + 3)) S = some S9) (kk : X F (u + 3) 2066 [(0, .ref bb), (1, .ref (gA F 0)), (2, .ref (gA F 75)), (3, .ref (gA F 90)), (4, .int (nI i))] [] S9) : X F u 1813 [(0, .ref bb), (1, .ref (gA F 0)), (2, .ref (gA F 75)), (3, .ref (gA F 90)), (4, .int (nI i))] [] S := by
  unfold LS_29 at h
  refine x_aload_n hF dL_law_1813 rfl rfl ?_
  refine x_aload_n hF dL_law_1814 rfl rfl ?_
  refine x_iload hF dL_law_1815 rfl ?_
  refine x_iconst (v := (1 : Int32)) hF dL_law_1817 (by decide) ?_
  refine x_iadd hF dL_law_1818 ?_
  refine x_scr (kk := 1) hF hX (by omega) hL (by decide) dL_law_1819 ?_
  refine x_aload_n hF dL_law_1820 rfl rfl ?_
  obtain ⟨k1, S1, hcall, h⟩ := ob_some h
  refine x_cW (n := 3) hF hN hR (cwL_capacityFor hF.tr hcall) tw_978 tw_977 tw_71 ⟨by decide, by decide, by decide⟩ (by decide) tw_976 ⟨by omega, by decide⟩ rfl rfl (Nat.le_of_ble_eq_true rfl) dL_law_1821 ?_
  refine x_istore [(5, _), (0, _), (1, _), (2, _), (3, _), (4, _)] hF hN dL_law_1824 (by decide) rfl ?_
  refine x_aload_n hF dL_law_1826 rfl rfl ?_
  refine x_aload_n hF dL_law_1827 rfl rfl ?_
  refine x_iload hF dL_law_1828 rfl ?_
  refine x_iconst (v := (1 : Int32)) hF dL_law_1830 (by decide) ?_
  refine x_iadd hF dL_law_1831 ?_
  refine x_scr (kk := 1) hF hX (by omega) hL (by decide) dL_law_1832 ?_
  obtain ⟨r2, S2, hcall, h⟩ := ob_some h
  refine x_cVi hF hN hR (ctX8_capacityFor hF.tr hcall) mwX8_capacityFor miX8_capacityFor sh75 ck7 (by decide) tw_1407 ⟨by omega, by decide⟩ rfl rfl (Nat.le_of_ble_eq_true rfl) dL_law_1833 ?_
  refine x_istore [(6, _), (5, _), (0, _), (1, _), (2, _), (3, _), (4, _)] hF hN dL_law_1836 (by decide) rfl ?_
  refine x_aload_n hF dL_law_1838 rfl rfl ?_
  obtain ⟨r3, S3, hcall, h⟩ := ob_some h
  refine x_cVi hF hN hR (ctX8_thrown hF.tr hcall) mwX8_thrown miX8_thrown sh75 ck7 (by decide) tw_1136 ⟨by omega, by decide⟩ rfl rfl (Nat.le_of_ble_eq_true rfl) dL_law_1839 ?_
  refine x_iload hF dL_law_1842 rfl ?_
  obtain ⟨hg, h⟩ := og_some h
  refine x_icmp_eq (tgt := 1849) hF dL_law_1844 (by decide) (fun _ => ?_) (fun hc => absurd hg hc)
  refine x_iload hF dL_law_1849 rfl ?_
  refine x_if_ne (tgt := 1866) hF dL_law_1851 (by decide) (fun hc => ?_) (fun hc => ?_)
  · have h := oi_neg hc h
    refine x_goto (tgt := 2066) hF dL_law_1866 (by decide) ?_
    obtain rfl := Option.some.inj h
    exact x_wid (by omega) (x_sub kk ⟨rfl, rfl, rfl, rfl, rfl, trivial⟩)
  have h := oi_pos hc h
  refine x_aload_n hF dL_law_1854 rfl rfl ?_
  refine x_iconst (v := (0 : Int32)) hF dL_law_1855 (by decide) ?_
  refine x_lald (j := 0) hF sh90 (by decide) (by decide) (by decide) dL_law_1856 ?_
  refine x_iload hF dL_law_1857 rfl ?_
  refine x_i2l hF dL_law_1859 ?_
  refine x_lcmp hF dL_law_1860 ?_
  obtain ⟨hg, h⟩ := og_some h
  refine x_if_eq (tgt := 1866) hF dL_law_1861 (by decide) (fun _ => ?_) (fun hc => absurd hg hc)
  refine x_goto (tgt := 2066) hF dL_law_1866 (by decide) ?_
  obtain rfl := Option.some.inj h
  exact x_wid (by omega) (x_sub kk ⟨rfl, rfl, rfl, rfl, rfl, trivial⟩)
noncomputable def LS_30 (a b c : Int32) (S : St) : Option St :=
  ob (X7_bestPolicy  S) (fun r1 S1 => ob (X8_bestPolicy  S1) (fun r2 S2 => og (r1 = r2) (some S2)))
set_option maxHeartbeats 4000000 in
set_option maxRecDepth 20000 in
theorem xL_case30 {F : Cx} {u U bb L i : Nat} {xs : Nat → Int32} (hF : Ok F cL_law RL) (hN : nLF F 7) (hR : RmF F 10 U) (hX : Scr F bb L xs) (hL : L ≤ 2048) (hi : i + 3 < L) (hu : u + 3 ≤ U) {S S9 : St} (h : LS_30 (xs (i + 1)) (xs (i + 2)) (xs (i + 3)) S = some S9) (kk : X F (u + 3) 2066 [(0, .ref bb), (1, .ref (gA F 0)), (2, .ref (gA F 75)), (3, .ref (gA F 90)), (4, .int (nI i))] [] S9) : X F u 1869 [(0, .ref bb), (1, .ref (gA F 0)), (2, .ref (gA F 75)), (3, .ref (gA F 90)), (4, .int (nI i))] [] S := by
  unfold LS_30 at h
  refine x_aload_n hF dL_law_1869 rfl rfl ?_
  obtain ⟨r1, S1, hcall, h⟩ := ob_some h
  refine x_cVi hF hN hR (ctX7_bestPolicy hF.tr hcall) mwX7_bestPolicy miX7_bestPolicy sh0 ck6 (by decide) tw_359 ⟨by omega, by decide⟩ rfl rfl (Nat.le_of_ble_eq_true rfl) dL_law_1870 ?_
  refine x_aload_n hF dL_law_1873 rfl rfl ?_
  obtain ⟨r2, S2, hcall, h⟩ := ob_some h
  refine x_cVi hF hN hR (ctX8_bestPolicy hF.tr hcall) mwX8_bestPolicy miX8_bestPolicy sh75 ck7 (by decide) tw_1411 ⟨by omega, by decide⟩ rfl rfl (Nat.le_of_ble_eq_true rfl) dL_law_1874 ?_
  obtain ⟨hg, h⟩ := og_some h
  refine x_icmp_eq (tgt := 2066) hF dL_law_1877 (by decide) (fun _ => ?_) (fun hc => absurd hg hc)
  obtain rfl := Option.some.inj h
  exact x_wid (by omega) (x_sub kk ⟨rfl, rfl, rfl, rfl, rfl, trivial⟩)
noncomputable def LS_31 (a b c : Int32) (S : St) : Option St :=
  ob (L_type a S) (fun k1 S1 => ob (X8_type a S1) (fun r2 S2 => ob (X8_thrown  S2) (fun r3 S3 => og (r3 = k1) (oi (k1 = 0) (og (lg_cmp (gl S3 90 0) r2.toInt64 = 0) (some S3)) (some S3)))))
set_option maxHeartbeats 4000000 in
set_option maxRecDepth 20000 in
theorem xL_case31 {F : Cx} {u U bb L i : Nat} {xs : Nat → Int32} (hF : Ok F cL_law RL) (hN : nLF F 7) (hR : RmF F 10 U) (hX : Scr F bb L xs) (hL : L ≤ 2048) (hi : i + 3 < L) (hu : u + 3 ≤ U) {S S9 : St} (h : LS_31 (xs (i + 1)) (xs (i + 2)) (xs (i + 3)) S = some S9) (kk : X F (u + 3) 2066 [(0, .ref bb), (1, .ref (gA F 0)), (2, .ref (gA F 75)), (3, .ref (gA F 90)), (4, .int (nI i))] [] S9) : X F u 1882 [(0, .ref bb), (1, .ref (gA F 0)), (2, .ref (gA F 75)), (3, .ref (gA F 90)), (4, .int (nI i))] [] S := by
  unfold LS_31 at h
  refine x_aload_n hF dL_law_1882 rfl rfl ?_
  refine x_aload_n hF dL_law_1883 rfl rfl ?_
  refine x_iload hF dL_law_1884 rfl ?_
  refine x_iconst (v := (1 : Int32)) hF dL_law_1886 (by decide) ?_
  refine x_iadd hF dL_law_1887 ?_
  refine x_scr (kk := 1) hF hX (by omega) hL (by decide) dL_law_1888 ?_
  refine x_aload_n hF dL_law_1889 rfl rfl ?_
  obtain ⟨k1, S1, hcall, h⟩ := ob_some h
  refine x_cW (n := 3) hF hN hR (cwL_type hF.tr hcall) tw_987 tw_986 tw_71 ⟨by decide, by decide, by decide⟩ (by decide) tw_985 ⟨by omega, by decide⟩ rfl rfl (Nat.le_of_ble_eq_true rfl) dL_law_1890 ?_
  refine x_istore [(5, _), (0, _), (1, _), (2, _), (3, _), (4, _)] hF hN dL_law_1893 (by decide) rfl ?_
  refine x_aload_n hF dL_law_1895 rfl rfl ?_
  refine x_aload_n hF dL_law_1896 rfl rfl ?_
  refine x_iload hF dL_law_1897 rfl ?_
  refine x_iconst (v := (1 : Int32)) hF dL_law_1899 (by decide) ?_
  refine x_iadd hF dL_law_1900 ?_
  refine x_scr (kk := 1) hF hX (by omega) hL (by decide) dL_law_1901 ?_
  obtain ⟨r2, S2, hcall, h⟩ := ob_some h
  refine x_cVi hF hN hR (ctX8_type hF.tr hcall) mwX8_type miX8_type sh75 ck7 (by decide) tw_1415 ⟨by omega, by decide⟩ rfl rfl (Nat.le_of_ble_eq_true rfl) dL_law_1902 ?_
  refine x_istore [(6, _), (5, _), (0, _), (1, _), (2, _), (3, _), (4, _)] hF hN dL_law_1905 (by decide) rfl ?_
  refine x_aload_n hF dL_law_1907 rfl rfl ?_
  obtain ⟨r3, S3, hcall, h⟩ := ob_some h
  refine x_cVi hF hN hR (ctX8_thrown hF.tr hcall) mwX8_thrown miX8_thrown sh75 ck7 (by decide) tw_1136 ⟨by omega, by decide⟩ rfl rfl (Nat.le_of_ble_eq_true rfl) dL_law_1908 ?_
  refine x_iload hF dL_law_1911 rfl ?_
  obtain ⟨hg, h⟩ := og_some h
  refine x_icmp_eq (tgt := 1918) hF dL_law_1913 (by decide) (fun _ => ?_) (fun hc => absurd hg hc)
  refine x_iload hF dL_law_1918 rfl ?_
  refine x_if_ne (tgt := 1935) hF dL_law_1920 (by decide) (fun hc => ?_) (fun hc => ?_)
  · have h := oi_neg hc h
    refine x_goto (tgt := 2066) hF dL_law_1935 (by decide) ?_
    obtain rfl := Option.some.inj h
    exact x_wid (by omega) (x_sub kk ⟨rfl, rfl, rfl, rfl, rfl, trivial⟩)
  have h := oi_pos hc h
  refine x_aload_n hF dL_law_1923 rfl rfl ?_
  refine x_iconst (v := (0 : Int32)) hF dL_law_1924 (by decide) ?_
  refine x_lald (j := 0) hF sh90 (by decide) (by decide) (by decide) dL_law_1925 ?_
  refine x_iload hF dL_law_1926 rfl ?_
  refine x_i2l hF dL_law_1928 ?_
  refine x_lcmp hF dL_law_1929 ?_
  obtain ⟨hg, h⟩ := og_some h
  refine x_if_eq (tgt := 1935) hF dL_law_1930 (by decide) (fun _ => ?_) (fun hc => absurd hg hc)
  refine x_goto (tgt := 2066) hF dL_law_1935 (by decide) ?_
  obtain rfl := Option.some.inj h
  exact x_wid (by omega) (x_sub kk ⟨rfl, rfl, rfl, rfl, rfl, trivial⟩)
noncomputable def LS_32 (a b c : Int32) (S : St) : Option St :=
  ob (X7_clearText  S) (fun r1 S1 => ob (X8_clearText  S1) (fun r2 S2 => og (r1 = r2) (some S2)))
set_option maxHeartbeats 4000000 in
set_option maxRecDepth 20000 in
theorem xL_case32 {F : Cx} {u U bb L i : Nat} {xs : Nat → Int32} (hF : Ok F cL_law RL) (hN : nLF F 7) (hR : RmF F 10 U) (hX : Scr F bb L xs) (hL : L ≤ 2048) (hi : i + 3 < L) (hu : u + 3 ≤ U) {S S9 : St} (h : LS_32 (xs (i + 1)) (xs (i + 2)) (xs (i + 3)) S = some S9) (kk : X F (u + 3) 2066 [(0, .ref bb), (1, .ref (gA F 0)), (2, .ref (gA F 75)), (3, .ref (gA F 90)), (4, .int (nI i))] [] S9) : X F u 1938 [(0, .ref bb), (1, .ref (gA F 0)), (2, .ref (gA F 75)), (3, .ref (gA F 90)), (4, .int (nI i))] [] S := by
  unfold LS_32 at h
  refine x_aload_n hF dL_law_1938 rfl rfl ?_
  obtain ⟨r1, S1, hcall, h⟩ := ob_some h
  refine x_cVi hF hN hR (ctX7_clearText hF.tr hcall) mwX7_clearText miX7_clearText sh0 ck6 (by decide) tw_478 ⟨by omega, by decide⟩ rfl rfl (Nat.le_of_ble_eq_true rfl) dL_law_1939 ?_
  refine x_aload_n hF dL_law_1942 rfl rfl ?_
  obtain ⟨r2, S2, hcall, h⟩ := ob_some h
  refine x_cVi hF hN hR (ctX8_clearText hF.tr hcall) mwX8_clearText miX8_clearText sh75 ck7 (by decide) tw_1419 ⟨by omega, by decide⟩ rfl rfl (Nat.le_of_ble_eq_true rfl) dL_law_1943 ?_
  obtain ⟨hg, h⟩ := og_some h
  refine x_icmp_eq (tgt := 2066) hF dL_law_1946 (by decide) (fun _ => ?_) (fun hc => absurd hg hc)
  obtain rfl := Option.some.inj h
  exact x_wid (by omega) (x_sub kk ⟨rfl, rfl, rfl, rfl, rfl, trivial⟩)
noncomputable def LS_33 (a b c : Int32) (S : St) : Option St :=
  ob (X7_fault  S) (fun r1 S1 => ob (X8_fault  S1) (fun r2 S2 => og (r1 = r2) (some S2)))
set_option maxHeartbeats 4000000 in
set_option maxRecDepth 20000 in
theorem xL_case33 {F : Cx} {u U bb L i : Nat} {xs : Nat → Int32} (hF : Ok F cL_law RL) (hN : nLF F 7) (hR : RmF F 10 U) (hX : Scr F bb L xs) (hL : L ≤ 2048) (hi : i + 3 < L) (hu : u + 3 ≤ U) {S S9 : St} (h : LS_33 (xs (i + 1)) (xs (i + 2)) (xs (i + 3)) S = some S9) (kk : X F (u + 3) 2066 [(0, .ref bb), (1, .ref (gA F 0)), (2, .ref (gA F 75)), (3, .ref (gA F 90)), (4, .int (nI i))] [] S9) : X F u 1951 [(0, .ref bb), (1, .ref (gA F 0)), (2, .ref (gA F 75)), (3, .ref (gA F 90)), (4, .int (nI i))] [] S := by
  unfold LS_33 at h
  refine x_aload_n hF dL_law_1951 rfl rfl ?_
  obtain ⟨r1, S1, hcall, h⟩ := ob_some h
  refine x_cVi hF hN hR (ctX7_fault hF.tr hcall) mwX7_fault miX7_fault sh0 ck6 (by decide) tw_482 ⟨by omega, by decide⟩ rfl rfl (Nat.le_of_ble_eq_true rfl) dL_law_1952 ?_
  refine x_aload_n hF dL_law_1955 rfl rfl ?_
  obtain ⟨r2, S2, hcall, h⟩ := ob_some h
  refine x_cVi hF hN hR (ctX8_fault hF.tr hcall) mwX8_fault miX8_fault sh75 ck7 (by decide) tw_1423 ⟨by omega, by decide⟩ rfl rfl (Nat.le_of_ble_eq_true rfl) dL_law_1956 ?_
  obtain ⟨hg, h⟩ := og_some h
  refine x_icmp_eq (tgt := 2066) hF dL_law_1959 (by decide) (fun _ => ?_) (fun hc => absurd hg hc)
  obtain rfl := Option.some.inj h
  exact x_wid (by omega) (x_sub kk ⟨rfl, rfl, rfl, rfl, rfl, trivial⟩)
noncomputable def LS_34 (a b c : Int32) (S : St) : Option St :=
  ob (L_run  S) (fun k1 S1 => ob (X8_run  S1) (fun r2 S2 => ob (X8_thrown  S2) (fun r3 S3 => og (r3 = k1) (oi (k1 = 0) (og (lg_cmp (gl S3 90 0) r2.toInt64 = 0) (some S3)) (some S3)))))
set_option maxHeartbeats 4000000 in
set_option maxRecDepth 20000 in
theorem xL_case34 {F : Cx} {u U bb L i : Nat} {xs : Nat → Int32} (hF : Ok F cL_law RL) (hN : nLF F 7) (hR : RmF F 10 U) (hX : Scr F bb L xs) (hL : L ≤ 2048) (hi : i + 3 < L) (hu : u + 3 ≤ U) {S S9 : St} (h : LS_34 (xs (i + 1)) (xs (i + 2)) (xs (i + 3)) S = some S9) (kk : X F (u + 3) 2066 [(0, .ref bb), (1, .ref (gA F 0)), (2, .ref (gA F 75)), (3, .ref (gA F 90)), (4, .int (nI i))] [] S9) : X F u 1964 [(0, .ref bb), (1, .ref (gA F 0)), (2, .ref (gA F 75)), (3, .ref (gA F 90)), (4, .int (nI i))] [] S := by
  unfold LS_34 at h
  refine x_aload_n hF dL_law_1964 rfl rfl ?_
  refine x_aload_n hF dL_law_1965 rfl rfl ?_
  obtain ⟨k1, S1, hcall, h⟩ := ob_some h
  refine x_cW (n := 2) hF hN hR (cwL_run hF.tr hcall) tw_1005 tw_1004 tw_71 ⟨by decide, by decide, by decide⟩ (by decide) tw_1003 ⟨by omega, by decide⟩ rfl rfl (Nat.le_of_ble_eq_true rfl) dL_law_1966 ?_
  refine x_istore [(5, _), (0, _), (1, _), (2, _), (3, _), (4, _)] hF hN dL_law_1969 (by decide) rfl ?_
  refine x_aload_n hF dL_law_1971 rfl rfl ?_
  obtain ⟨r2, S2, hcall, h⟩ := ob_some h
  refine x_cVi hF hN hR (ctX8_run hF.tr hcall) mwX8_run miX8_run sh75 ck7 (by decide) tw_1465 ⟨by omega, by decide⟩ rfl rfl (Nat.le_of_ble_eq_true rfl) dL_law_1972 ?_
  refine x_istore [(6, _), (5, _), (0, _), (1, _), (2, _), (3, _), (4, _)] hF hN dL_law_1975 (by decide) rfl ?_
  refine x_aload_n hF dL_law_1977 rfl rfl ?_
  obtain ⟨r3, S3, hcall, h⟩ := ob_some h
  refine x_cVi hF hN hR (ctX8_thrown hF.tr hcall) mwX8_thrown miX8_thrown sh75 ck7 (by decide) tw_1136 ⟨by omega, by decide⟩ rfl rfl (Nat.le_of_ble_eq_true rfl) dL_law_1978 ?_
  refine x_iload hF dL_law_1981 rfl ?_
  obtain ⟨hg, h⟩ := og_some h
  refine x_icmp_eq (tgt := 1988) hF dL_law_1983 (by decide) (fun _ => ?_) (fun hc => absurd hg hc)
  refine x_iload hF dL_law_1988 rfl ?_
  refine x_if_ne (tgt := 2005) hF dL_law_1990 (by decide) (fun hc => ?_) (fun hc => ?_)
  · have h := oi_neg hc h
    refine x_goto (tgt := 2066) hF dL_law_2005 (by decide) ?_
    obtain rfl := Option.some.inj h
    exact x_wid (by omega) (x_sub kk ⟨rfl, rfl, rfl, rfl, rfl, trivial⟩)
  have h := oi_pos hc h
  refine x_aload_n hF dL_law_1993 rfl rfl ?_
  refine x_iconst (v := (0 : Int32)) hF dL_law_1994 (by decide) ?_
  refine x_lald (j := 0) hF sh90 (by decide) (by decide) (by decide) dL_law_1995 ?_
  refine x_iload hF dL_law_1996 rfl ?_
  refine x_i2l hF dL_law_1998 ?_
  refine x_lcmp hF dL_law_1999 ?_
  obtain ⟨hg, h⟩ := og_some h
  refine x_if_eq (tgt := 2005) hF dL_law_2000 (by decide) (fun _ => ?_) (fun hc => absurd hg hc)
  refine x_goto (tgt := 2066) hF dL_law_2005 (by decide) ?_
  obtain rfl := Option.some.inj h
  exact x_wid (by omega) (x_sub kk ⟨rfl, rfl, rfl, rfl, rfl, trivial⟩)
noncomputable def LS_35 (a b c : Int32) (S : St) : Option St :=
  ob (L_undo  S) (fun k1 S1 => ob (X8_undo  S1) (fun r2 S2 => ob (X8_thrown  S2) (fun r3 S3 => og (r3 = k1) (oi (k1 = 0) (og (lg_cmp (gl S3 90 0) r2.toInt64 = 0) (some S3)) (some S3)))))
set_option maxHeartbeats 4000000 in
set_option maxRecDepth 20000 in
theorem xL_case35 {F : Cx} {u U bb L i : Nat} {xs : Nat → Int32} (hF : Ok F cL_law RL) (hN : nLF F 7) (hR : RmF F 10 U) (hX : Scr F bb L xs) (hL : L ≤ 2048) (hi : i + 3 < L) (hu : u + 3 ≤ U) {S S9 : St} (h : LS_35 (xs (i + 1)) (xs (i + 2)) (xs (i + 3)) S = some S9) (kk : X F (u + 3) 2066 [(0, .ref bb), (1, .ref (gA F 0)), (2, .ref (gA F 75)), (3, .ref (gA F 90)), (4, .int (nI i))] [] S9) : X F u 2008 [(0, .ref bb), (1, .ref (gA F 0)), (2, .ref (gA F 75)), (3, .ref (gA F 90)), (4, .int (nI i))] [] S := by
  unfold LS_35 at h
  refine x_aload_n hF dL_law_2008 rfl rfl ?_
  refine x_aload_n hF dL_law_2009 rfl rfl ?_
  obtain ⟨k1, S1, hcall, h⟩ := ob_some h
  refine x_cW (n := 2) hF hN hR (cwL_undo hF.tr hcall) tw_1026 tw_1025 tw_71 ⟨by decide, by decide, by decide⟩ (by decide) tw_1024 ⟨by omega, by decide⟩ rfl rfl (Nat.le_of_ble_eq_true rfl) dL_law_2010 ?_
  refine x_istore [(5, _), (0, _), (1, _), (2, _), (3, _), (4, _)] hF hN dL_law_2013 (by decide) rfl ?_
  refine x_aload_n hF dL_law_2015 rfl rfl ?_
  obtain ⟨r2, S2, hcall, h⟩ := ob_some h
  refine x_cVi hF hN hR (ctX8_undo hF.tr hcall) mwX8_undo miX8_undo sh75 ck7 (by decide) tw_1473 ⟨by omega, by decide⟩ rfl rfl (Nat.le_of_ble_eq_true rfl) dL_law_2016 ?_
  refine x_istore [(6, _), (5, _), (0, _), (1, _), (2, _), (3, _), (4, _)] hF hN dL_law_2019 (by decide) rfl ?_
  refine x_aload_n hF dL_law_2021 rfl rfl ?_
  obtain ⟨r3, S3, hcall, h⟩ := ob_some h
  refine x_cVi hF hN hR (ctX8_thrown hF.tr hcall) mwX8_thrown miX8_thrown sh75 ck7 (by decide) tw_1136 ⟨by omega, by decide⟩ rfl rfl (Nat.le_of_ble_eq_true rfl) dL_law_2022 ?_
  refine x_iload hF dL_law_2025 rfl ?_
  obtain ⟨hg, h⟩ := og_some h
  refine x_icmp_eq (tgt := 2032) hF dL_law_2027 (by decide) (fun _ => ?_) (fun hc => absurd hg hc)
  refine x_iload hF dL_law_2032 rfl ?_
  refine x_if_ne (tgt := 2049) hF dL_law_2034 (by decide) (fun hc => ?_) (fun hc => ?_)
  · have h := oi_neg hc h
    refine x_goto (tgt := 2066) hF dL_law_2049 (by decide) ?_
    obtain rfl := Option.some.inj h
    exact x_wid (by omega) (x_sub kk ⟨rfl, rfl, rfl, rfl, rfl, trivial⟩)
  have h := oi_pos hc h
  refine x_aload_n hF dL_law_2037 rfl rfl ?_
  refine x_iconst (v := (0 : Int32)) hF dL_law_2038 (by decide) ?_
  refine x_lald (j := 0) hF sh90 (by decide) (by decide) (by decide) dL_law_2039 ?_
  refine x_iload hF dL_law_2040 rfl ?_
  refine x_i2l hF dL_law_2042 ?_
  refine x_lcmp hF dL_law_2043 ?_
  obtain ⟨hg, h⟩ := og_some h
  refine x_if_eq (tgt := 2049) hF dL_law_2044 (by decide) (fun _ => ?_) (fun hc => absurd hg hc)
  refine x_goto (tgt := 2066) hF dL_law_2049 (by decide) ?_
  obtain rfl := Option.some.inj h
  exact x_wid (by omega) (x_sub kk ⟨rfl, rfl, rfl, rfl, rfl, trivial⟩)
noncomputable def LS_36 (a b c : Int32) (S : St) : Option St :=
  ob (X7_checksum  S) (fun r1 S1 => ob (X8_checksum  S1) (fun r2 S2 => og ((lg_cmp r1 r2) = 0) (some S2)))
set_option maxHeartbeats 4000000 in
set_option maxRecDepth 20000 in
theorem xL_case36 {F : Cx} {u U bb L i : Nat} {xs : Nat → Int32} (hF : Ok F cL_law RL) (hN : nLF F 7) (hR : RmF F 10 U) (hX : Scr F bb L xs) (hL : L ≤ 2048) (hi : i + 3 < L) (hu : u + 3 ≤ U) {S S9 : St} (h : LS_36 (xs (i + 1)) (xs (i + 2)) (xs (i + 3)) S = some S9) (kk : X F (u + 3) 2066 [(0, .ref bb), (1, .ref (gA F 0)), (2, .ref (gA F 75)), (3, .ref (gA F 90)), (4, .int (nI i))] [] S9) : X F u 2052 [(0, .ref bb), (1, .ref (gA F 0)), (2, .ref (gA F 75)), (3, .ref (gA F 90)), (4, .int (nI i))] [] S := by
  unfold LS_36 at h
  refine x_aload_n hF dL_law_2052 rfl rfl ?_
  obtain ⟨r1, S1, hcall, h⟩ := ob_some h
  refine x_cVl hF hN hR (ctX7_checksum hF.tr hcall) mwX7_checksum miX7_checksum sh0 ck6 (by decide) tw_560 ⟨by omega, by decide⟩ rfl rfl (Nat.le_of_ble_eq_true rfl) dL_law_2053 ?_
  refine x_aload_n hF dL_law_2056 rfl rfl ?_
  obtain ⟨r2, S2, hcall, h⟩ := ob_some h
  refine x_cVl hF hN hR (ctX8_checksum hF.tr hcall) mwX8_checksum miX8_checksum sh75 ck7 (by decide) tw_1477 ⟨by omega, by decide⟩ rfl rfl (Nat.le_of_ble_eq_true rfl) dL_law_2057 ?_
  refine x_lcmp hF dL_law_2060 ?_
  obtain ⟨hg, h⟩ := og_some h
  refine x_if_eq (tgt := 2066) hF dL_law_2061 (by decide) (fun _ => ?_) (fun hc => absurd hg hc)
  obtain rfl := Option.some.inj h
  exact x_wid (by omega) (x_sub kk ⟨rfl, rfl, rfl, rfl, rfl, trivial⟩)
noncomputable def lawStep (o a b c : Int32) (S : St) : Option St :=
  oi (o &&& 63 = 0) (LS_0 a b c S) (oi (o &&& 63 = 1) (LS_1 a b c S) (oi (o &&& 63 = 2) (LS_2 a b c S) (oi (o &&& 63 = 3) (LS_3 a b c S) (oi (o &&& 63 = 4) (LS_4 a b c S) (oi (o &&& 63 = 5) (LS_5 a b c S) (oi (o &&& 63 = 6) (LS_6 a b c S) (oi (o &&& 63 = 7) (LS_7 a b c S) (oi (o &&& 63 = 8) (LS_8 a b c S) (oi (o &&& 63 = 9) (LS_9 a b c S) (oi (o &&& 63 = 10) (LS_10 a b c S) (oi (o &&& 63 = 11) (LS_11 a b c S) (oi (o &&& 63 = 12) (LS_12 a b c S) (oi (o &&& 63 = 13) (LS_13 a b c S) (oi (o &&& 63 = 14) (LS_14 a b c S) (oi (o &&& 63 = 15) (LS_15 a b c S) (oi (o &&& 63 = 16) (LS_16 a b c S) (oi (o &&& 63 = 17) (LS_17 a b c S) (oi (o &&& 63 = 18) (LS_18 a b c S) (oi (o &&& 63 = 19) (LS_19 a b c S) (oi (o &&& 63 = 20) (LS_20 a b c S) (oi (o &&& 63 = 21) (LS_21 a b c S) (oi (o &&& 63 = 22) (LS_22 a b c S) (oi (o &&& 63 = 23) (LS_23 a b c S) (oi (o &&& 63 = 24) (LS_24 a b c S) (oi (o &&& 63 = 25) (LS_25 a b c S) (oi (o &&& 63 = 26) (LS_26 a b c S) (oi (o &&& 63 = 27) (LS_27 a b c S) (oi (o &&& 63 = 28) (LS_28 a b c S) (oi (o &&& 63 = 29) (LS_29 a b c S) (oi (o &&& 63 = 30) (LS_30 a b c S) (oi (o &&& 63 = 31) (LS_31 a b c S) (oi (o &&& 63 = 32) (LS_32 a b c S) (oi (o &&& 63 = 33) (LS_33 a b c S) (oi (o &&& 63 = 34) (LS_34 a b c S) (oi (o &&& 63 = 35) (LS_35 a b c S) (oi (o &&& 63 = 36) (LS_36 a b c S) (some S)))))))))))))))))))))))))))))))))))))
set_option maxHeartbeats 8000000 in
set_option maxRecDepth 20000 in
theorem xL_switch {F : Cx} {u U bb L i : Nat} {xs : Nat → Int32} {o : Int32} (hF : Ok F cL_law RL) (hN : nLF F 7) (hR : RmF F 10 U) (hX : Scr F bb L xs) (hL : L ≤ 2048) (hi : i + 3 < L) (hu : u + 3 ≤ U) {S S9 : St} (h : lawStep o (xs (i + 1)) (xs (i + 2)) (xs (i + 3)) S = some S9) (kk : X F (u + 3) 2066 [(0, .ref bb), (1, .ref (gA F 0)), (2, .ref (gA F 75)), (3, .ref (gA F 90)), (4, .int (nI i))] [] S9) : X F u 39 [(0, .ref bb), (1, .ref (gA F 0)), (2, .ref (gA F 75)), (3, .ref (gA F 90)), (4, .int (nI i))] [.int (o &&& 63)] S := by
  unfold lawStep at h
  by_cases hc0 : o &&& 63 = (0 : Int32)
  · have h := oi_pos hc0 h
    exact x_tsIn (tgt := 200) (off := 161) hF dL_law_39 hc0 (by decide) (by decide) (by decide) (by decide) (xL_case0 hF hN hR hX hL hi hu h kk)
  have h := oi_neg hc0 h
  by_cases hc1 : o &&& 63 = (1 : Int32)
  · have h := oi_pos hc1 h
    exact x_tsIn (tgt := 280) (off := 241) hF dL_law_39 hc1 (by decide) (by decide) (by decide) (by decide) (xL_case1 hF hN hR hX hL hi hu h kk)
  have h := oi_neg hc1 h
  by_cases hc2 : o &&& 63 = (2 : Int32)
  · have h := oi_pos hc2 h
    exact x_tsIn (tgt := 336) (off := 297) hF dL_law_39 hc2 (by decide) (by decide) (by decide) (by decide) (xL_case2 hF hN hR hX hL hi hu h kk)
  have h := oi_neg hc2 h
  by_cases hc3 : o &&& 63 = (3 : Int32)
  · have h := oi_pos hc3 h
    exact x_tsIn (tgt := 349) (off := 310) hF dL_law_39 hc3 (by decide) (by decide) (by decide) (by decide) (xL_case3 hF hN hR hX hL hi hu h kk)
  have h := oi_neg hc3 h
  by_cases hc4 : o &&& 63 = (4 : Int32)
  · have h := oi_pos hc4 h
    exact x_tsIn (tgt := 417) (off := 378) hF dL_law_39 hc4 (by decide) (by decide) (by decide) (by decide) (xL_case4 hF hN hR hX hL hi hu h kk)
  have h := oi_neg hc4 h
  by_cases hc5 : o &&& 63 = (5 : Int32)
  · have h := oi_pos hc5 h
    exact x_tsIn (tgt := 473) (off := 434) hF dL_law_39 hc5 (by decide) (by decide) (by decide) (by decide) (xL_case5 hF hN hR hX hL hi hu h kk)
  have h := oi_neg hc5 h
  by_cases hc6 : o &&& 63 = (6 : Int32)
  · have h := oi_pos hc6 h
    exact x_tsIn (tgt := 529) (off := 490) hF dL_law_39 hc6 (by decide) (by decide) (by decide) (by decide) (xL_case6 hF hN hR hX hL hi hu h kk)
  have h := oi_neg hc6 h
  by_cases hc7 : o &&& 63 = (7 : Int32)
  · have h := oi_pos hc7 h
    exact x_tsIn (tgt := 585) (off := 546) hF dL_law_39 hc7 (by decide) (by decide) (by decide) (by decide) (xL_case7 hF hN hR hX hL hi hu h kk)
  have h := oi_neg hc7 h
  by_cases hc8 : o &&& 63 = (8 : Int32)
  · have h := oi_pos hc8 h
    exact x_tsIn (tgt := 641) (off := 602) hF dL_law_39 hc8 (by decide) (by decide) (by decide) (by decide) (xL_case8 hF hN hR hX hL hi hu h kk)
  have h := oi_neg hc8 h
  by_cases hc9 : o &&& 63 = (9 : Int32)
  · have h := oi_pos hc9 h
    exact x_tsIn (tgt := 697) (off := 658) hF dL_law_39 hc9 (by decide) (by decide) (by decide) (by decide) (xL_case9 hF hN hR hX hL hi hu h kk)
  have h := oi_neg hc9 h
  by_cases hc10 : o &&& 63 = (10 : Int32)
  · have h := oi_pos hc10 h
    exact x_tsIn (tgt := 753) (off := 714) hF dL_law_39 hc10 (by decide) (by decide) (by decide) (by decide) (xL_case10 hF hN hR hX hL hi hu h kk)
  have h := oi_neg hc10 h
  by_cases hc11 : o &&& 63 = (11 : Int32)
  · have h := oi_pos hc11 h
    exact x_tsIn (tgt := 809) (off := 770) hF dL_law_39 hc11 (by decide) (by decide) (by decide) (by decide) (xL_case11 hF hN hR hX hL hi hu h kk)
  have h := oi_neg hc11 h
  by_cases hc12 : o &&& 63 = (12 : Int32)
  · have h := oi_pos hc12 h
    exact x_tsIn (tgt := 865) (off := 826) hF dL_law_39 hc12 (by decide) (by decide) (by decide) (by decide) (xL_case12 hF hN hR hX hL hi hu h kk)
  have h := oi_neg hc12 h
  by_cases hc13 : o &&& 63 = (13 : Int32)
  · have h := oi_pos hc13 h
    exact x_tsIn (tgt := 933) (off := 894) hF dL_law_39 hc13 (by decide) (by decide) (by decide) (by decide) (xL_case13 hF hN hR hX hL hi hu h kk)
  have h := oi_neg hc13 h
  by_cases hc14 : o &&& 63 = (14 : Int32)
  · have h := oi_pos hc14 h
    exact x_tsIn (tgt := 989) (off := 950) hF dL_law_39 hc14 (by decide) (by decide) (by decide) (by decide) (xL_case14 hF hN hR hX hL hi hu h kk)
  have h := oi_neg hc14 h
  by_cases hc15 : o &&& 63 = (15 : Int32)
  · have h := oi_pos hc15 h
    exact x_tsIn (tgt := 1014) (off := 975) hF dL_law_39 hc15 (by decide) (by decide) (by decide) (by decide) (xL_case15 hF hN hR hX hL hi hu h kk)
  have h := oi_neg hc15 h
  by_cases hc16 : o &&& 63 = (16 : Int32)
  · have h := oi_pos hc16 h
    exact x_tsIn (tgt := 1039) (off := 1000) hF dL_law_39 hc16 (by decide) (by decide) (by decide) (by decide) (xL_case16 hF hN hR hX hL hi hu h kk)
  have h := oi_neg hc16 h
  by_cases hc17 : o &&& 63 = (17 : Int32)
  · have h := oi_pos hc17 h
    exact x_tsIn (tgt := 1052) (off := 1013) hF dL_law_39 hc17 (by decide) (by decide) (by decide) (by decide) (xL_case17 hF hN hR hX hL hi hu h kk)
  have h := oi_neg hc17 h
  by_cases hc18 : o &&& 63 = (18 : Int32)
  · have h := oi_pos hc18 h
    exact x_tsIn (tgt := 1077) (off := 1038) hF dL_law_39 hc18 (by decide) (by decide) (by decide) (by decide) (xL_case18 hF hN hR hX hL hi hu h kk)
  have h := oi_neg hc18 h
  by_cases hc19 : o &&& 63 = (19 : Int32)
  · have h := oi_pos hc19 h
    exact x_tsIn (tgt := 1133) (off := 1094) hF dL_law_39 hc19 (by decide) (by decide) (by decide) (by decide) (xL_case19 hF hN hR hX hL hi hu h kk)
  have h := oi_neg hc19 h
  by_cases hc20 : o &&& 63 = (20 : Int32)
  · have h := oi_pos hc20 h
    exact x_tsIn (tgt := 1201) (off := 1162) hF dL_law_39 hc20 (by decide) (by decide) (by decide) (by decide) (xL_case20 hF hN hR hX hL hi hu h kk)
  have h := oi_neg hc20 h
  by_cases hc21 : o &&& 63 = (21 : Int32)
  · have h := oi_pos hc21 h
    exact x_tsIn (tgt := 1269) (off := 1230) hF dL_law_39 hc21 (by decide) (by decide) (by decide) (by decide) (xL_case21 hF hN hR hX hL hi hu h kk)
  have h := oi_neg hc21 h
  by_cases hc22 : o &&& 63 = (22 : Int32)
  · have h := oi_pos hc22 h
    exact x_tsIn (tgt := 1337) (off := 1298) hF dL_law_39 hc22 (by decide) (by decide) (by decide) (by decide) (xL_case22 hF hN hR hX hL hi hu h kk)
  have h := oi_neg hc22 h
  by_cases hc23 : o &&& 63 = (23 : Int32)
  · have h := oi_pos hc23 h
    exact x_tsIn (tgt := 1417) (off := 1378) hF dL_law_39 hc23 (by decide) (by decide) (by decide) (by decide) (xL_case23 hF hN hR hX hL hi hu h kk)
  have h := oi_neg hc23 h
  by_cases hc24 : o &&& 63 = (24 : Int32)
  · have h := oi_pos hc24 h
    exact x_tsIn (tgt := 1485) (off := 1446) hF dL_law_39 hc24 (by decide) (by decide) (by decide) (by decide) (xL_case24 hF hN hR hX hL hi hu h kk)
  have h := oi_neg hc24 h
  by_cases hc25 : o &&& 63 = (25 : Int32)
  · have h := oi_pos hc25 h
    exact x_tsIn (tgt := 1565) (off := 1526) hF dL_law_39 hc25 (by decide) (by decide) (by decide) (by decide) (xL_case25 hF hN hR hX hL hi hu h kk)
  have h := oi_neg hc25 h
  by_cases hc26 : o &&& 63 = (26 : Int32)
  · have h := oi_pos hc26 h
    exact x_tsIn (tgt := 1621) (off := 1582) hF dL_law_39 hc26 (by decide) (by decide) (by decide) (by decide) (xL_case26 hF hN hR hX hL hi hu h kk)
  have h := oi_neg hc26 h
  by_cases hc27 : o &&& 63 = (27 : Int32)
  · have h := oi_pos hc27 h
    exact x_tsIn (tgt := 1701) (off := 1662) hF dL_law_39 hc27 (by decide) (by decide) (by decide) (by decide) (xL_case27 hF hN hR hX hL hi hu h kk)
  have h := oi_neg hc27 h
  by_cases hc28 : o &&& 63 = (28 : Int32)
  · have h := oi_pos hc28 h
    exact x_tsIn (tgt := 1757) (off := 1718) hF dL_law_39 hc28 (by decide) (by decide) (by decide) (by decide) (xL_case28 hF hN hR hX hL hi hu h kk)
  have h := oi_neg hc28 h
  by_cases hc29 : o &&& 63 = (29 : Int32)
  · have h := oi_pos hc29 h
    exact x_tsIn (tgt := 1813) (off := 1774) hF dL_law_39 hc29 (by decide) (by decide) (by decide) (by decide) (xL_case29 hF hN hR hX hL hi hu h kk)
  have h := oi_neg hc29 h
  by_cases hc30 : o &&& 63 = (30 : Int32)
  · have h := oi_pos hc30 h
    exact x_tsIn (tgt := 1869) (off := 1830) hF dL_law_39 hc30 (by decide) (by decide) (by decide) (by decide) (xL_case30 hF hN hR hX hL hi hu h kk)
  have h := oi_neg hc30 h
  by_cases hc31 : o &&& 63 = (31 : Int32)
  · have h := oi_pos hc31 h
    exact x_tsIn (tgt := 1882) (off := 1843) hF dL_law_39 hc31 (by decide) (by decide) (by decide) (by decide) (xL_case31 hF hN hR hX hL hi hu h kk)
  have h := oi_neg hc31 h
  by_cases hc32 : o &&& 63 = (32 : Int32)
  · have h := oi_pos hc32 h
    exact x_tsIn (tgt := 1938) (off := 1899) hF dL_law_39 hc32 (by decide) (by decide) (by decide) (by decide) (xL_case32 hF hN hR hX hL hi hu h kk)
  have h := oi_neg hc32 h
  by_cases hc33 : o &&& 63 = (33 : Int32)
  · have h := oi_pos hc33 h
    exact x_tsIn (tgt := 1951) (off := 1912) hF dL_law_39 hc33 (by decide) (by decide) (by decide) (by decide) (xL_case33 hF hN hR hX hL hi hu h kk)
  have h := oi_neg hc33 h
  by_cases hc34 : o &&& 63 = (34 : Int32)
  · have h := oi_pos hc34 h
    exact x_tsIn (tgt := 1964) (off := 1925) hF dL_law_39 hc34 (by decide) (by decide) (by decide) (by decide) (xL_case34 hF hN hR hX hL hi hu h kk)
  have h := oi_neg hc34 h
  by_cases hc35 : o &&& 63 = (35 : Int32)
  · have h := oi_pos hc35 h
    exact x_tsIn (tgt := 2008) (off := 1969) hF dL_law_39 hc35 (by decide) (by decide) (by decide) (by decide) (xL_case35 hF hN hR hX hL hi hu h kk)
  have h := oi_neg hc35 h
  by_cases hc36 : o &&& 63 = (36 : Int32)
  · have h := oi_pos hc36 h
    exact x_tsIn (tgt := 2052) (off := 2013) hF dL_law_39 hc36 (by decide) (by decide) (by decide) (by decide) (xL_case36 hF hN hR hX hL hi hu h kk)
  have h := oi_neg hc36 h
  obtain rfl := Option.some.inj h
  refine x_tsOut (tgt := 2066) hF dL_law_39 (by have e0 := i32ne 0 (by decide) hc0; have e1 := i32ne 1 (by decide) hc1; have e2 := i32ne 2 (by decide) hc2; have e3 := i32ne 3 (by decide) hc3; have e4 := i32ne 4 (by decide) hc4; have e5 := i32ne 5 (by decide) hc5; have e6 := i32ne 6 (by decide) hc6; have e7 := i32ne 7 (by decide) hc7; have e8 := i32ne 8 (by decide) hc8; have e9 := i32ne 9 (by decide) hc9; have e10 := i32ne 10 (by decide) hc10; have e11 := i32ne 11 (by decide) hc11; have e12 := i32ne 12 (by decide) hc12; have e13 := i32ne 13 (by decide) hc13; have e14 := i32ne 14 (by decide) hc14; have e15 := i32ne 15 (by decide) hc15; have e16 := i32ne 16 (by decide) hc16; have e17 := i32ne 17 (by decide) hc17; have e18 := i32ne 18 (by decide) hc18; have e19 := i32ne 19 (by decide) hc19; have e20 := i32ne 20 (by decide) hc20; have e21 := i32ne 21 (by decide) hc21; have e22 := i32ne 22 (by decide) hc22; have e23 := i32ne 23 (by decide) hc23; have e24 := i32ne 24 (by decide) hc24; have e25 := i32ne 25 (by decide) hc25; have e26 := i32ne 26 (by decide) hc26; have e27 := i32ne 27 (by decide) hc27; have e28 := i32ne 28 (by decide) hc28; have e29 := i32ne 29 (by decide) hc29; have e30 := i32ne 30 (by decide) hc30; have e31 := i32ne 31 (by decide) hc31; have e32 := i32ne 32 (by decide) hc32; have e33 := i32ne 33 (by decide) hc33; have e34 := i32ne 34 (by decide) hc34; have e35 := i32ne 35 (by decide) hc35; have e36 := i32ne 36 (by decide) hc36; omega) (by decide) ?_
  exact x_wid (by omega) kk
noncomputable def lawIt (xs : Nat → Int32) : Nat → Nat → St → Option St
  | 0, _, S => some S
  | n + 1, j, S => (lawStep (xs j) (xs (j + 1)) (xs (j + 2)) (xs (j + 3)) S).bind (lawIt xs n (j + 4))
set_option maxHeartbeats 4000000 in
set_option maxRecDepth 20000 in
theorem xL_loop {F : Cx} {U bb L : Nat} {xs : Nat → Int32} (hF : Ok F cL_law RL) (hN : nLF F 7) (hR : RmF F 10 U) (hX : Scr F bb L xs) (hL : L ≤ 2048) (hret : ∀ (u pc : Nat) (ls : List (Nat × Value)) (S : St), u ≤ U → decode cL_law pc = .ok (.ireturn, 1) → X F u pc ls [.int 1] S) :
    ∀ (n i u : Nat) (S S9 : St), i + 4 * n ≤ L → L < i + 4 * n + 4 → u + 3 * n ≤ U → lawIt xs n i S = some S9 → X F u 23 [(0, .ref bb), (1, .ref (gA F 0)), (2, .ref (gA F 75)), (3, .ref (gA F 90)), (4, .int (nI i))] [] S := by
  intro n
  induction n with
  | zero =>
    intro i u S S9 h1 h2 hu h
    refine x_iload hF dL_law_23 rfl ?_
    refine x_aload_n hF dL_law_25 rfl rfl ?_
    refine x_slen hF hX dL_law_26 ?_
    refine x_iconst (v := (4 : Int32)) hF dL_law_27 (by decide) ?_
    refine x_isub hF dL_law_28 ?_
    refine x_icmp_gt (tgt := 2072) hF dL_law_29 (by decide) (fun _ => ?_) (fun hc => absurd ?_ hc)
    · refine x_iconst (v := (1 : Int32)) hF dL_law_2072 (by decide) ?_
      exact hret _ _ _ _ (by omega) dL_law_2073
    · rw [Int32.lt_iff_toInt_lt, show (4 : Int32) = nI 4 from rfl, pk_sub_toInt (by omega) (by omega), nI_toInt (by omega)]
      omega
  | succ n ih =>
    intro i u S S9 h1 h2 hu h
    unfold lawIt at h
    obtain ⟨S2, h3, h4⟩ := Option.bind_eq_some_iff.mp h
    refine x_iload hF dL_law_23 rfl ?_
    refine x_aload_n hF dL_law_25 rfl rfl ?_
    refine x_slen hF hX dL_law_26 ?_
    refine x_iconst (v := (4 : Int32)) hF dL_law_27 (by decide) ?_
    refine x_isub hF dL_law_28 ?_
    refine x_icmp_gt (tgt := 2072) hF dL_law_29 (by decide) (fun hc => absurd hc ?_) (fun _ => ?_)
    · rw [Int32.lt_iff_toInt_lt, show (4 : Int32) = nI 4 from rfl, pk_sub_toInt (by omega) (by omega), nI_toInt (by omega)]
      omega
    · refine x_aload_n hF dL_law_32 rfl rfl ?_
      refine x_iload hF dL_law_33 rfl ?_
      refine x_scr0 hF hX (by omega) hL dL_law_35 ?_
      refine x_bipush (v := (63 : Int32)) hF dL_law_36 (by decide) ?_
      refine x_iand hF dL_law_38 ?_
      refine xL_switch hF hN hR hX hL (by omega) (by omega) h3 ?_
      refine x_iinc [(4, _), (0, _), (1, _), (2, _), (3, _)] (v := (4 : Int32)) hF hN dL_law_2066 rfl (by decide) (by decide) rfl ?_
      refine x_goto (tgt := 23) hF dL_law_2069 (by decide) ?_
      have e4 : nI i + (4 : Int32) = nI (i + 4) := by rw [show (4 : Int32) = nI 4 from rfl, nI_add]
      rw [e4]
      exact x_sub (ih (i + 4) (u + 3) S2 S9 (by omega) (by omega) (by omega) h4) ⟨rfl, rfl, rfl, rfl, rfl, trivial⟩
