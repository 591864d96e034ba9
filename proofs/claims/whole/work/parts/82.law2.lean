set_option maxHeartbeats 4000000 in
set_option maxRecDepth 100000 in
theorem law_group {p : Program} {l : Launch} {e : Env} {s : State} {m : MethodId} {below : List Frame} {meth : Method} {c : Code} {dC : Nat → ClassId} {dI : Nat → Nat → Nat} {ad am : Nat → Nat} {cI cZ cJ : ClassId} {o b L : Nat} {xs : Nat → Int32} (hL : L ≤ 3072) (C0 : lw_At p s m meth c b L xs) (hlt : l.stackTraces = false) (hK : va_K (dC, dI) vwCl (cL3 cI cZ cJ) s) (hN : nW s) (hT : tW (fun q : Nat => s.heap.size ≤ q) s) (hC : cW s) (j : Nat) (hj : 6 * j + 6 ≤ L) :
    ∀ (zx : Nat → Nat) (vx : Nat → Int32) (fx : Nat → Nat → Int32) (th : Int32) (zm : Nat → Nat) (vm : Nat → Int32) (fm : Nat → Nat → Int32) (g : Nat → Int64) (H : Heap) (locs : List Loc) (ls : Array Slot), REL zx vx fx zm vm fm → va_P (dC, dI) vwCl (wL ad am cI cZ cJ o zx vx fx th zm vm fm g) H → va_D (fun q : Nat => s.heap.size ≤ q) (wL ad am cI cZ cJ o zx vx fx th zm vm fm g) → va_S (fun q : Nat => s.heap.size ≤ q) s.heap H locs → lv_has ls 7 [(0, .ref b), (1, .ref (ad 0)), (2, .ref (am 0)), (3, .ref o), (4, .int (nI (6 * j)))] → (∀ (zx : Nat → Nat) (vx : Nat → Int32) (fx : Nat → Nat → Int32) (th : Int32) (zm : Nat → Nat) (vm : Nat → Int32) (fm : Nat → Nat → Int32) (g : Nat → Int64) (H : Heap) (locs : List Loc) (ls : Array Slot), REL zx vx fx zm vm fm → va_P (dC, dI) vwCl (wL ad am cI cZ cJ o zx vx fx th zm vm fm g) H → va_D (fun q : Nat => s.heap.size ≤ q) (wL ad am cI cZ cJ o zx vx fx th zm vm fm g) → va_S (fun q : Nat => s.heap.size ≤ q) s.heap H locs → lv_has ls 7 [(0, .ref b), (1, .ref (ad 0)), (2, .ref (am 0)), (3, .ref o), (4, .int (nI (6 * j)))] → W p l e room_1 s m #[Value.ref b] below meth c H locs (41 + j + 1) (1610 + 6 * j + 6) (lw_Z below #[Value.ref b] s) (F0 m 1108 ls [])) → W p l e room_1 s m #[Value.ref b] below meth c H locs (41 + j) (1610 + 6 * j) (lw_Z below #[Value.ref b] s) (F0 m 333 ls []) := by
  obtain ⟨hx, hb, hr, hml, hown, hts0, hX, hbl, hlocks, hgv⟩ := C0
  have hts := fun w h => hts0 w (wsL_law_in w h)
  have hA : ∀ q : Nat, s.heap.size ≤ q → (fun q : Nat => s.heap.size ≤ q) q := fun _ h => h
  have hbA : ¬ (fun q : Nat => s.heap.size ≤ q) b := Nat.not_le.mpr hbl
  have hKc := hK.sub (tys' := [(cI, .int), (cZ, .boolean)]) [0, 1] rfl
  intro zx vx fx th zm vm fm g H locs ls hR hP hD hS hl hk
  have hokX := hR.1
  have hokM := hR.2.1
  refine lv_aload_n hx hb dL_law_333 rfl (lv_at hl 1 rfl) ?_
  refine lv_aload_n hx hb dL_law_334 rfl (lv_at hl 0 rfl) ?_
  refine lv_iload hx hb dL_law_335 (lv_at hl 4 rfl) ?_
  refine lv_iconst (v := 1) hx hb dL_law_337 (by decide) ?_
  refine lv_iadd hx hb dL_law_338 ?_
  refine xe_top (nI_add (6 * j) 1) ?_
  refine xs_ld hx hb hX hbl hbA hS (k := 6 * j + 1) (by omega) (by omega) dL_law_339 ?_
  refine lv_aload_n hx hb dL_law_340 rfl (lv_at hl 0 rfl) ?_
  refine lv_iload hx hb dL_law_341 (lv_at hl 4 rfl) ?_
  refine lv_iconst (v := 2) hx hb dL_law_343 (by decide) ?_
  refine lv_iadd hx hb dL_law_344 ?_
  refine xe_top (nI_add (6 * j) 2) ?_
  refine xs_ld hx hb hX hbl hbA hS (k := 6 * j + 2) (by omega) (by omega) dL_law_345 ?_
  refine lv_aload_n hx hb dL_law_346 rfl (lv_at hl 3 rfl) ?_
  have hpu := pu_group hR (xs (6 * j + 1)) (xs (6 * j + 2))
  have hkc := kc_group zx vx fx (xs (6 * j + 1)) (xs (6 * j + 2))
  have hM1 := c_L_group l dC dI ad cI cZ cJ zx vx fx H.size o g (xs (6 * j + 1)) (xs (6 * j + 2)) hokX hlt
  generalize F_X4_group zx vx fx (xs (6 * j + 1)) (xs (6 * j + 2)) = FX at hpu hkc hM1
  have hPc := hP.sub (ws' := (wXo ad cI cZ cJ o zx vx fx g)) [0, 1, 2, 3, 4, 5, 6, 7, 8, 9, 10, 11, 12, 13, 14, 15, 16, 17, 18, 19, 20, 21, 40] rfl
  have hDc := hD.sub (ws' := (wXo ad cI cZ cJ o zx vx fx g)) [0, 1, 2, 3, 4, 5, 6, 7, 8, 9, 10, 11, 12, 13, 14, 15, 16, 17, 18, 19, 20, 21, 40] (by decide) rfl
  have hFc := va_free (wc := (wXo ad cI cZ cJ o zx vx fx g)) hD hS hA [0, 1, 2, 3, 4, 5, 6, 7, 8, 9, 10, 11, 12, 13, 14, 15, 16, 17, 18, 19, 20, 21, 40] rfl
  refine va_calli (vx_runSW (hh := [(0, 10, 13, 19)]) (As := [.ref (ad 0), .int (xs (6 * j + 1)), .int (xs (6 * j + 2)), .ref o]) (rest := []) ⟨hx, hb, hml, hown, hts⟩ hM1 (vx_cwSW 4 hts gL_law_L_group rfl rfl rfl (by decide +kernel) ⟨Nat.le_of_ble_eq_true rfl, Nat.le_of_ble_eq_true rfl⟩) (preL hPc hK hN hDc hT hC hS hFc) rfl rfl hl.1 rfl (lv_room (Nat.le_of_ble_eq_true rfl)) dL_law_347 ⟨by show 41 + j + 1 ≤ 1080; omega, by show 1610 + 6 * j + 6 ≤ 9892; omega⟩) hS (fun q _ h => hFc q h) hFc (fun r5 g5 t9 H1 locs ht hvm hw hB hz1 hk1 hS => ?_)
  have hP1 : va_P (dC, dI) vwCl _ t9.heap := hB
  rw [ht] at hP1
  obtain ⟨hP, hD⟩ := va_join (wr := wM am cI cZ th zm vm fm) (w1 := (wXo ad cI cZ cJ o FX.2.2.1 FX.2.2.2.1 FX.2.2.2.2 g5)) hP hD [0, 1, 2, 3, 4, 5, 6, 7, 8, 9, 10, 11, 12, 13, 14, 15, 16, 17, 18, 19, 20, 21, 40] [22, 23, 24, 25, 26, 27, 28, 29, 30, 31, 32, 33, 34, 35, 36, 37, 38, 39] rfl rfl (by decide) (by decide) hk1 hFc hP1 (va_D.fst (ws := (wXo ad cI cZ cJ o zx vx fx g)) rfl (hDc.self (sz := H.size)))
  generalize H1 = H at hP hS ⊢
  have hP : va_P (dC, dI) vwCl (wL ad am cI cZ cJ o FX.2.2.1 FX.2.2.2.1 FX.2.2.2.2 th zm vm fm g5) H := hP.sub [18, 19, 20, 21, 22, 23, 24, 25, 26, 27, 28, 29, 30, 31, 32, 33, 34, 35, 36, 37, 38, 39, 0, 1, 2, 3, 4, 5, 6, 7, 8, 9, 10, 11, 12, 13, 14, 15, 16, 17, 40] rfl
  have hD : va_D (fun q : Nat => s.heap.size ≤ q) (wL ad am cI cZ cJ o FX.2.2.1 FX.2.2.2.1 FX.2.2.2.2 th zm vm fm g5) := hD.sub [18, 19, 20, 21, 22, 23, 24, 25, 26, 27, 28, 29, 30, 31, 32, 33, 34, 35, 36, 37, 38, 39, 0, 1, 2, 3, 4, 5, 6, 7, 8, 9, 10, 11, 12, 13, 14, 15, 16, 17, 40] (by decide) rfl
  refine lv_istore (lv' := [(5, .int r5), (0, .ref b), (1, .ref (ad 0)), (2, .ref (am 0)), (3, .ref o), (4, .int (nI (6 * j)))]) hx hb dL_law_350 hl (by decide) rfl (fun ls hl => ?_)
  refine lv_aload_n hx hb dL_law_352 rfl (lv_at hl 3 rfl) ?_
  refine lv_aload_n hx hb dL_law_353 rfl (lv_at hl 1 rfl) ?_
  refine lv_iload hx hb dL_law_354 (lv_at hl 5 rfl) ?_
  refine lv_iconst (v := 1) hx hb dL_law_356 (by decide) ?_
  refine lv_iadd hx hb dL_law_357 ?_
  refine xe_top (nI_add (6 * j) 1) ?_
  refine xs_ld hx hb hX hbl hbA hS (k := 6 * j + 1) (by omega) (by omega) dL_law_358 ?_
  refine lv_aload_n hx hb dL_law_359 rfl (lv_at hl 1 rfl) ?_
  refine lv_iload hx hb dL_law_360 (lv_at hl 5 rfl) ?_
  refine lv_iconst (v := 2) hx hb dL_law_362 (by decide) ?_
  refine lv_iadd hx hb dL_law_363 ?_
  refine xe_top (nI_add (6 * j) 2) ?_
  refine xs_ld hx hb hX hbl hbA hS (k := 6 * j + 2) (by omega) (by omega) dL_law_364 ?_
  have hM2 := c_X5_group l dC dI am cI cZ th zm vm fm H.size (xs (6 * j + 1)) (xs (6 * j + 2)) hokM
  generalize F_X5_group zm vm fm (xs (6 * j + 1)) (xs (6 * j + 2)) = FM at hpu hM2
  have hPc := hP.sub (ws' := (wM am cI cZ th zm vm fm)) [22, 23, 24, 25, 26, 27, 28, 29, 30, 31, 32, 33, 34, 35, 36, 37, 38, 39] rfl
  have hDc := hD.sub (ws' := (wM am cI cZ th zm vm fm)) [22, 23, 24, 25, 26, 27, 28, 29, 30, 31, 32, 33, 34, 35, 36, 37, 38, 39] (by decide) rfl
  have hFc := va_free (wc := (wM am cI cZ th zm vm fm)) hD hS hA [22, 23, 24, 25, 26, 27, 28, 29, 30, 31, 32, 33, 34, 35, 36, 37, 38, 39] rfl
  refine va_calli (va_runV (As := [.int (xs (6 * j + 1)), .int (xs (6 * j + 2))]) (rest := []) ⟨hx, hb, hml, hown, hts⟩ hM2 (cwV 2 hts gL_law_X5_group rfl rfl rfl (by decide +kernel) ⟨Nat.le_of_ble_eq_true rfl, Nat.le_of_ble_eq_true rfl⟩) (preMw (ci := 5) (q0 := 0) hPc hKc hN hDc rfl rfl rfl) rfl rfl hl.1 rfl (lv_room (Nat.le_of_ble_eq_true rfl)) dL_law_365 ⟨by show 41 + j + 1 + 0 ≤ 1080; omega, by show 1610 + 6 * j + 6 + 0 ≤ 9892; omega⟩) hS (fun q _ h => hFc q h) hFc (fun r6 u9 t9 H1 locs ht hvm hw6 hB hz1 hk1 hS => ?_)
  have hr6 : r6 = FM.1 := hw6
  have hP1 : va_P (dC, dI) vwCl _ t9.heap := hB
  rw [ht] at hP1
  obtain ⟨hP, hD⟩ := va_join (wr := wX ad cI cZ FX.2.2.1 FX.2.2.2.1 FX.2.2.2.2 ++ [(o, .inl (cJ, 1, .inr (.inl g5)))]) (w1 := (wM am cI cZ FM.2.1 FM.2.2.1 FM.2.2.2.1 FM.2.2.2.2)) hP hD [22, 23, 24, 25, 26, 27, 28, 29, 30, 31, 32, 33, 34, 35, 36, 37, 38, 39] [0, 1, 2, 3, 4, 5, 6, 7, 8, 9, 10, 11, 12, 13, 14, 15, 16, 17, 18, 19, 20, 21, 40] rfl rfl (by decide) (by decide) hk1 hFc hP1 (va_D.fst (ws := (wM am cI cZ th zm vm fm)) rfl (hDc.self (sz := H.size)))
  generalize H1 = H at hP hS ⊢
  have hP : va_P (dC, dI) vwCl (wL ad am cI cZ cJ o FX.2.2.1 FX.2.2.2.1 FX.2.2.2.2 FM.2.1 FM.2.2.1 FM.2.2.2.1 FM.2.2.2.2 g5) H := hP.sub [0, 1, 2, 3, 4, 5, 6, 7, 8, 9, 10, 11, 12, 13, 14, 15, 16, 17, 18, 19, 20, 21, 23, 24, 25, 26, 27, 28, 29, 30, 31, 32, 33, 34, 35, 36, 37, 38, 39, 40, 22] rfl
  have hD : va_D (fun q : Nat => s.heap.size ≤ q) (wL ad am cI cZ cJ o FX.2.2.1 FX.2.2.2.1 FX.2.2.2.2 FM.2.1 FM.2.2.1 FM.2.2.2.1 FM.2.2.2.2 g5) := hD.sub [0, 1, 2, 3, 4, 5, 6, 7, 8, 9, 10, 11, 12, 13, 14, 15, 16, 17, 18, 19, 20, 21, 23, 24, 25, 26, 27, 28, 29, 30, 31, 32, 33, 34, 35, 36, 37, 38, 39, 40, 22] (by decide) rfl
  have hR2 := hpu.2.2
  refine lv_istore (lv' := [(6, .int r6), (5, .int r5), (0, .ref b), (1, .ref (ad 0)), (2, .ref (am 0)), (3, .ref o), (4, .int (nI (6 * j)))]) hx hb dL_law_368 hl (by decide) rfl (fun ls hl => ?_)
  refine lv_aload_n hx hb dL_law_370 rfl (lv_at hl 4 rfl) ?_
  have hPc := hP.sub (ws' := (wM am cI cZ FM.2.1 FM.2.2.1 FM.2.2.2.1 FM.2.2.2.2)) [22, 23, 24, 25, 26, 27, 28, 29, 30, 31, 32, 33, 34, 35, 36, 37, 38, 39] rfl
  refine vp_callSi (W.runV (As := []) (rest := []) ⟨hx, hb, hml, hown, hts⟩ (c_X5_thrown l dC dI am cI cZ FM.2.1 FM.2.2.1 FM.2.2.2.1 FM.2.2.2.2 hR2.2.1) (cwV 0 hts gL_law_X5_thrown rfl rfl rfl (by decide +kernel) ⟨Nat.le_of_ble_eq_true rfl, Nat.le_of_ble_eq_true rfl⟩) (preM (ci := 5) (q0 := 0) hPc hKc hN rfl rfl rfl) rfl rfl hl.1 rfl (lv_room (Nat.le_of_ble_eq_true rfl)) dL_law_371 ⟨by show 41 + j + 1 + 0 ≤ 1080; omega, by show 1610 + 6 * j + 6 + 0 ≤ 9892; omega⟩) (fun r7 h9 => ?_)
  have hr7 : r7 = FM.2.1 := h9
  refine lv_iload hx hb dL_law_374 (lv_at hl 1 rfl) ?_
  refine lv_icmp_eq (tgt := 381) hx hb dL_law_376 (by decide) (fun _ => ?_) (fun h9 => absurd (by rw [hr7, hw.1]; exact hpu.1) h9)
  refine lv_iload hx hb dL_law_381 (lv_at hl 1 rfl) ?_
  refine lv_if_ne (tgt := 398) hx hb dL_law_383 (by decide) (fun c5 => ?_) (fun c5 => ?_)
  · refine lv_goto (tgt := 1108) hx hb dL_law_398 (by decide) ?_
    refine W.widen (k := 41 + j + 1) (n := 1610 + 6 * j + 6) (by omega) (by omega) ?_
    exact hk FX.2.2.1 FX.2.2.2.1 FX.2.2.2.2 FM.2.1 FM.2.2.1 FM.2.2.2.1 FM.2.2.2.2 g5 H locs ls hR2 hP hD hS (lv_sub hl [2, 3, 4, 5, 6] rfl)
  · refine lv_aload_n hx hb dL_law_386 rfl (lv_at hl 5 rfl) ?_
    refine lv_iconst (v := 0) hx hb dL_law_387 (by decide) ?_
    have h0 : FX.1 = 0 := hz_group hkc (hw.1.symm.trans c5)
    refine va_lald hx hb hK hP 40 2 rfl rfl (vp_in_nI (n := 0) (by decide) (by decide)) dL_law_388 ?_
    refine lv_iload hx hb dL_law_389 (lv_at hl 0 rfl) ?_
    refine lv_i2l hx hb dL_law_391 rfl ?_
    refine W.lcmp hx hb dL_law_392 ?_
    refine lv_if_eq (tgt := 398) hx hb dL_law_393 (by decide) (fun _ => ?_) (fun h9 => absurd (lc_eq (by rw [hr6, ← hpu.2.1 h0]; exact hw.2 h0)) h9)
    refine lv_goto (tgt := 1108) hx hb dL_law_398 (by decide) ?_
    refine W.widen (k := 41 + j + 1) (n := 1610 + 6 * j + 6) (by omega) (by omega) ?_
    exact hk FX.2.2.1 FX.2.2.2.1 FX.2.2.2.2 FM.2.1 FM.2.2.1 FM.2.2.2.1 FM.2.2.2.2 g5 H locs ls hR2 hP hD hS (lv_sub hl [2, 3, 4, 5, 6] rfl)
set_option maxHeartbeats 4000000 in
set_option maxRecDepth 100000 in
theorem law_deputy {p : Program} {l : Launch} {e : Env} {s : State} {m : MethodId} {below : List Frame} {meth : Method} {c : Code} {dC : Nat → ClassId} {dI : Nat → Nat → Nat} {ad am : Nat → Nat} {cI cZ cJ : ClassId} {o b L : Nat} {xs : Nat → Int32} (hL : L ≤ 3072) (C0 : lw_At p s m meth c b L xs) (hlt : l.stackTraces = false) (hK : va_K (dC, dI) vwCl (cL3 cI cZ cJ) s) (hN : nW s) (hT : tW (fun q : Nat => s.heap.size ≤ q) s) (hC : cW s) (j : Nat) (hj : 6 * j + 6 ≤ L) :
    ∀ (zx : Nat → Nat) (vx : Nat → Int32) (fx : Nat → Nat → Int32) (th : Int32) (zm : Nat → Nat) (vm : Nat → Int32) (fm : Nat → Nat → Int32) (g : Nat → Int64) (H : Heap) (locs : List Loc) (ls : Array Slot), REL zx vx fx zm vm fm → va_P (dC, dI) vwCl (wL ad am cI cZ cJ o zx vx fx th zm vm fm g) H → va_D (fun q : Nat => s.heap.size ≤ q) (wL ad am cI cZ cJ o zx vx fx th zm vm fm g) → va_S (fun q : Nat => s.heap.size ≤ q) s.heap H locs → lv_has ls 7 [(0, .ref b), (1, .ref (ad 0)), (2, .ref (am 0)), (3, .ref o), (4, .int (nI (6 * j)))] → (∀ (zx : Nat → Nat) (vx : Nat → Int32) (fx : Nat → Nat → Int32) (th : Int32) (zm : Nat → Nat) (vm : Nat → Int32) (fm : Nat → Nat → Int32) (g : Nat → Int64) (H : Heap) (locs : List Loc) (ls : Array Slot), REL zx vx fx zm vm fm → va_P (dC, dI) vwCl (wL ad am cI cZ cJ o zx vx fx th zm vm fm g) H → va_D (fun q : Nat => s.heap.size ≤ q) (wL ad am cI cZ cJ o zx vx fx th zm vm fm g) → va_S (fun q : Nat => s.heap.size ≤ q) s.heap H locs → lv_has ls 7 [(0, .ref b), (1, .ref (ad 0)), (2, .ref (am 0)), (3, .ref o), (4, .int (nI (6 * j)))] → W p l e room_1 s m #[Value.ref b] below meth c H locs (41 + j + 1) (1610 + 6 * j + 6) (lw_Z below #[Value.ref b] s) (F0 m 1108 ls [])) → W p l e room_1 s m #[Value.ref b] below meth c H locs (41 + j) (1610 + 6 * j) (lw_Z below #[Value.ref b] s) (F0 m 401 ls []) := by
  obtain ⟨hx, hb, hr, hml, hown, hts0, hX, hbl, hlocks, hgv⟩ := C0
  have hts := fun w h => hts0 w (wsL_law_in w h)
  have hA : ∀ q : Nat, s.heap.size ≤ q → (fun q : Nat => s.heap.size ≤ q) q := fun _ h => h
  have hbA : ¬ (fun q : Nat => s.heap.size ≤ q) b := Nat.not_le.mpr hbl
  have hKc := hK.sub (tys' := [(cI, .int), (cZ, .boolean)]) [0, 1] rfl
  intro zx vx fx th zm vm fm g H locs ls hR hP hD hS hl hk
  have hokX := hR.1
  have hokM := hR.2.1
  refine lv_aload_n hx hb dL_law_401 rfl (lv_at hl 1 rfl) ?_
  refine lv_aload_n hx hb dL_law_402 rfl (lv_at hl 0 rfl) ?_
  refine lv_iload hx hb dL_law_403 (lv_at hl 4 rfl) ?_
  refine lv_iconst (v := 1) hx hb dL_law_405 (by decide) ?_
  refine lv_iadd hx hb dL_law_406 ?_
  refine xe_top (nI_add (6 * j) 1) ?_
  refine xs_ld hx hb hX hbl hbA hS (k := 6 * j + 1) (by omega) (by omega) dL_law_407 ?_
  refine lv_aload_n hx hb dL_law_408 rfl (lv_at hl 0 rfl) ?_
  refine lv_iload hx hb dL_law_409 (lv_at hl 4 rfl) ?_
  refine lv_iconst (v := 2) hx hb dL_law_411 (by decide) ?_
  refine lv_iadd hx hb dL_law_412 ?_
  refine xe_top (nI_add (6 * j) 2) ?_
  refine xs_ld hx hb hX hbl hbA hS (k := 6 * j + 2) (by omega) (by omega) dL_law_413 ?_
  refine lv_aload_n hx hb dL_law_414 rfl (lv_at hl 3 rfl) ?_
  have hpu := pu_deputy hR (xs (6 * j + 1)) (xs (6 * j + 2))
  have hkc := kc_deputy zx vx fx (xs (6 * j + 1)) (xs (6 * j + 2))
  have hM1 := c_L_deputy l dC dI ad cI cZ cJ zx vx fx H.size o g (xs (6 * j + 1)) (xs (6 * j + 2)) hokX hlt
  generalize F_X4_deputy zx vx fx (xs (6 * j + 1)) (xs (6 * j + 2)) = FX at hpu hkc hM1
  have hPc := hP.sub (ws' := (wXo ad cI cZ cJ o zx vx fx g)) [0, 1, 2, 3, 4, 5, 6, 7, 8, 9, 10, 11, 12, 13, 14, 15, 16, 17, 18, 19, 20, 21, 40] rfl
  have hDc := hD.sub (ws' := (wXo ad cI cZ cJ o zx vx fx g)) [0, 1, 2, 3, 4, 5, 6, 7, 8, 9, 10, 11, 12, 13, 14, 15, 16, 17, 18, 19, 20, 21, 40] (by decide) rfl
  have hFc := va_free (wc := (wXo ad cI cZ cJ o zx vx fx g)) hD hS hA [0, 1, 2, 3, 4, 5, 6, 7, 8, 9, 10, 11, 12, 13, 14, 15, 16, 17, 18, 19, 20, 21, 40] rfl
  refine va_calli (vx_runSW (hh := [(0, 10, 13, 19)]) (As := [.ref (ad 0), .int (xs (6 * j + 1)), .int (xs (6 * j + 2)), .ref o]) (rest := []) ⟨hx, hb, hml, hown, hts⟩ hM1 (vx_cwSW 4 hts gL_law_L_deputy rfl rfl rfl (by decide +kernel) ⟨Nat.le_of_ble_eq_true rfl, Nat.le_of_ble_eq_true rfl⟩) (preL hPc hK hN hDc hT hC hS hFc) rfl rfl hl.1 rfl (lv_room (Nat.le_of_ble_eq_true rfl)) dL_law_415 ⟨by show 41 + j + 1 ≤ 1080; omega, by show 1610 + 6 * j + 6 ≤ 9892; omega⟩) hS (fun q _ h => hFc q h) hFc (fun r5 g5 t9 H1 locs ht hvm hw hB hz1 hk1 hS => ?_)
  have hP1 : va_P (dC, dI) vwCl _ t9.heap := hB
  rw [ht] at hP1
  obtain ⟨hP, hD⟩ := va_join (wr := wM am cI cZ th zm vm fm) (w1 := (wXo ad cI cZ cJ o FX.2.2.1 FX.2.2.2.1 FX.2.2.2.2 g5)) hP hD [0, 1, 2, 3, 4, 5, 6, 7, 8, 9, 10, 11, 12, 13, 14, 15, 16, 17, 18, 19, 20, 21, 40] [22, 23, 24, 25, 26, 27, 28, 29, 30, 31, 32, 33, 34, 35, 36, 37, 38, 39] rfl rfl (by decide) (by decide) hk1 hFc hP1 (va_D.fst (ws := (wXo ad cI cZ cJ o zx vx fx g)) rfl (hDc.self (sz := H.size)))
  generalize H1 = H at hP hS ⊢
  have hP : va_P (dC, dI) vwCl (wL ad am cI cZ cJ o FX.2.2.1 FX.2.2.2.1 FX.2.2.2.2 th zm vm fm g5) H := hP.sub [18, 19, 20, 21, 22, 23, 24, 25, 26, 27, 28, 29, 30, 31, 32, 33, 34, 35, 36, 37, 38, 39, 0, 1, 2, 3, 4, 5, 6, 7, 8, 9, 10, 11, 12, 13, 14, 15, 16, 17, 40] rfl
  have hD : va_D (fun q : Nat => s.heap.size ≤ q) (wL ad am cI cZ cJ o FX.2.2.1 FX.2.2.2.1 FX.2.2.2.2 th zm vm fm g5) := hD.sub [18, 19, 20, 21, 22, 23, 24, 25, 26, 27, 28, 29, 30, 31, 32, 33, 34, 35, 36, 37, 38, 39, 0, 1, 2, 3, 4, 5, 6, 7, 8, 9, 10, 11, 12, 13, 14, 15, 16, 17, 40] (by decide) rfl
  refine lv_istore (lv' := [(5, .int r5), (0, .ref b), (1, .ref (ad 0)), (2, .ref (am 0)), (3, .ref o), (4, .int (nI (6 * j)))]) hx hb dL_law_418 hl (by decide) rfl (fun ls hl => ?_)
  refine lv_aload_n hx hb dL_law_420 rfl (lv_at hl 3 rfl) ?_
  refine lv_aload_n hx hb dL_law_421 rfl (lv_at hl 1 rfl) ?_
  refine lv_iload hx hb dL_law_422 (lv_at hl 5 rfl) ?_
  refine lv_iconst (v := 1) hx hb dL_law_424 (by decide) ?_
  refine lv_iadd hx hb dL_law_425 ?_
  refine xe_top (nI_add (6 * j) 1) ?_
  refine xs_ld hx hb hX hbl hbA hS (k := 6 * j + 1) (by omega) (by omega) dL_law_426 ?_
  refine lv_aload_n hx hb dL_law_427 rfl (lv_at hl 1 rfl) ?_
  refine lv_iload hx hb dL_law_428 (lv_at hl 5 rfl) ?_
  refine lv_iconst (v := 2) hx hb dL_law_430 (by decide) ?_
  refine lv_iadd hx hb dL_law_431 ?_
  refine xe_top (nI_add (6 * j) 2) ?_
  refine xs_ld hx hb hX hbl hbA hS (k := 6 * j + 2) (by omega) (by omega) dL_law_432 ?_
  have hM2 := c_X5_deputy l dC dI am cI cZ th zm vm fm H.size (xs (6 * j + 1)) (xs (6 * j + 2)) hokM
  generalize F_X5_deputy zm vm fm (xs (6 * j + 1)) (xs (6 * j + 2)) = FM at hpu hM2
  have hPc := hP.sub (ws' := (wM am cI cZ th zm vm fm)) [22, 23, 24, 25, 26, 27, 28, 29, 30, 31, 32, 33, 34, 35, 36, 37, 38, 39] rfl
  have hDc := hD.sub (ws' := (wM am cI cZ th zm vm fm)) [22, 23, 24, 25, 26, 27, 28, 29, 30, 31, 32, 33, 34, 35, 36, 37, 38, 39] (by decide) rfl
  have hFc := va_free (wc := (wM am cI cZ th zm vm fm)) hD hS hA [22, 23, 24, 25, 26, 27, 28, 29, 30, 31, 32, 33, 34, 35, 36, 37, 38, 39] rfl
  refine va_calli (va_runV (As := [.int (xs (6 * j + 1)), .int (xs (6 * j + 2))]) (rest := []) ⟨hx, hb, hml, hown, hts⟩ hM2 (cwV 2 hts gL_law_X5_deputy rfl rfl rfl (by decide +kernel) ⟨Nat.le_of_ble_eq_true rfl, Nat.le_of_ble_eq_true rfl⟩) (preMw (ci := 5) (q0 := 0) hPc hKc hN hDc rfl rfl rfl) rfl rfl hl.1 rfl (lv_room (Nat.le_of_ble_eq_true rfl)) dL_law_433 ⟨by show 41 + j + 1 + 0 ≤ 1080; omega, by show 1610 + 6 * j + 6 + 0 ≤ 9892; omega⟩) hS (fun q _ h => hFc q h) hFc (fun r6 u9 t9 H1 locs ht hvm hw6 hB hz1 hk1 hS => ?_)
  have hr6 : r6 = FM.1 := hw6
  have hP1 : va_P (dC, dI) vwCl _ t9.heap := hB
  rw [ht] at hP1
  obtain ⟨hP, hD⟩ := va_join (wr := wX ad cI cZ FX.2.2.1 FX.2.2.2.1 FX.2.2.2.2 ++ [(o, .inl (cJ, 1, .inr (.inl g5)))]) (w1 := (wM am cI cZ FM.2.1 FM.2.2.1 FM.2.2.2.1 FM.2.2.2.2)) hP hD [22, 23, 24, 25, 26, 27, 28, 29, 30, 31, 32, 33, 34, 35, 36, 37, 38, 39] [0, 1, 2, 3, 4, 5, 6, 7, 8, 9, 10, 11, 12, 13, 14, 15, 16, 17, 18, 19, 20, 21, 40] rfl rfl (by decide) (by decide) hk1 hFc hP1 (va_D.fst (ws := (wM am cI cZ th zm vm fm)) rfl (hDc.self (sz := H.size)))
  generalize H1 = H at hP hS ⊢
  have hP : va_P (dC, dI) vwCl (wL ad am cI cZ cJ o FX.2.2.1 FX.2.2.2.1 FX.2.2.2.2 FM.2.1 FM.2.2.1 FM.2.2.2.1 FM.2.2.2.2 g5) H := hP.sub [0, 1, 2, 3, 4, 5, 6, 7, 8, 9, 10, 11, 12, 13, 14, 15, 16, 17, 18, 19, 20, 21, 23, 24, 25, 26, 27, 28, 29, 30, 31, 32, 33, 34, 35, 36, 37, 38, 39, 40, 22] rfl
  have hD : va_D (fun q : Nat => s.heap.size ≤ q) (wL ad am cI cZ cJ o FX.2.2.1 FX.2.2.2.1 FX.2.2.2.2 FM.2.1 FM.2.2.1 FM.2.2.2.1 FM.2.2.2.2 g5) := hD.sub [0, 1, 2, 3, 4, 5, 6, 7, 8, 9, 10, 11, 12, 13, 14, 15, 16, 17, 18, 19, 20, 21, 23, 24, 25, 26, 27, 28, 29, 30, 31, 32, 33, 34, 35, 36, 37, 38, 39, 40, 22] (by decide) rfl
  have hR2 := hpu.2.2
  refine lv_istore (lv' := [(6, .int r6), (5, .int r5), (0, .ref b), (1, .ref (ad 0)), (2, .ref (am 0)), (3, .ref o), (4, .int (nI (6 * j)))]) hx hb dL_law_436 hl (by decide) rfl (fun ls hl => ?_)
  refine lv_aload_n hx hb dL_law_438 rfl (lv_at hl 4 rfl) ?_
  have hPc := hP.sub (ws' := (wM am cI cZ FM.2.1 FM.2.2.1 FM.2.2.2.1 FM.2.2.2.2)) [22, 23, 24, 25, 26, 27, 28, 29, 30, 31, 32, 33, 34, 35, 36, 37, 38, 39] rfl
  refine vp_callSi (W.runV (As := []) (rest := []) ⟨hx, hb, hml, hown, hts⟩ (c_X5_thrown l dC dI am cI cZ FM.2.1 FM.2.2.1 FM.2.2.2.1 FM.2.2.2.2 hR2.2.1) (cwV 0 hts gL_law_X5_thrown rfl rfl rfl (by decide +kernel) ⟨Nat.le_of_ble_eq_true rfl, Nat.le_of_ble_eq_true rfl⟩) (preM (ci := 5) (q0 := 0) hPc hKc hN rfl rfl rfl) rfl rfl hl.1 rfl (lv_room (Nat.le_of_ble_eq_true rfl)) dL_law_439 ⟨by show 41 + j + 1 + 0 ≤ 1080; omega, by show 1610 + 6 * j + 6 + 0 ≤ 9892; omega⟩) (fun r7 h9 => ?_)
  have hr7 : r7 = FM.2.1 := h9
  refine lv_iload hx hb dL_law_442 (lv_at hl 1 rfl) ?_
  refine lv_icmp_eq (tgt := 449) hx hb dL_law_444 (by decide) (fun _ => ?_) (fun h9 => absurd (by rw [hr7, hw.1]; exact hpu.1) h9)
  refine lv_iload hx hb dL_law_449 (lv_at hl 1 rfl) ?_
  refine lv_if_ne (tgt := 466) hx hb dL_law_451 (by decide) (fun c5 => ?_) (fun c5 => ?_)
  · refine lv_goto (tgt := 1108) hx hb dL_law_466 (by decide) ?_
    refine W.widen (k := 41 + j + 1) (n := 1610 + 6 * j + 6) (by omega) (by omega) ?_
    exact hk FX.2.2.1 FX.2.2.2.1 FX.2.2.2.2 FM.2.1 FM.2.2.1 FM.2.2.2.1 FM.2.2.2.2 g5 H locs ls hR2 hP hD hS (lv_sub hl [2, 3, 4, 5, 6] rfl)
  · refine lv_aload_n hx hb dL_law_454 rfl (lv_at hl 5 rfl) ?_
    refine lv_iconst (v := 0) hx hb dL_law_455 (by decide) ?_
    have h0 : FX.1 = 0 := hz_deputy hkc (hw.1.symm.trans c5)
    refine va_lald hx hb hK hP 40 2 rfl rfl (vp_in_nI (n := 0) (by decide) (by decide)) dL_law_456 ?_
    refine lv_iload hx hb dL_law_457 (lv_at hl 0 rfl) ?_
    refine lv_i2l hx hb dL_law_459 rfl ?_
    refine W.lcmp hx hb dL_law_460 ?_
    refine lv_if_eq (tgt := 466) hx hb dL_law_461 (by decide) (fun _ => ?_) (fun h9 => absurd (lc_eq (by rw [hr6, ← hpu.2.1 h0]; exact hw.2 h0)) h9)
    refine lv_goto (tgt := 1108) hx hb dL_law_466 (by decide) ?_
    refine W.widen (k := 41 + j + 1) (n := 1610 + 6 * j + 6) (by omega) (by omega) ?_
    exact hk FX.2.2.1 FX.2.2.2.1 FX.2.2.2.2 FM.2.1 FM.2.2.1 FM.2.2.2.1 FM.2.2.2.2 g5 H locs ls hR2 hP hD hS (lv_sub hl [2, 3, 4, 5, 6] rfl)
set_option maxHeartbeats 4000000 in
set_option maxRecDepth 100000 in
theorem law_mandate {p : Program} {l : Launch} {e : Env} {s : State} {m : MethodId} {below : List Frame} {meth : Method} {c : Code} {dC : Nat → ClassId} {dI : Nat → Nat → Nat} {ad am : Nat → Nat} {cI cZ cJ : ClassId} {o b L : Nat} {xs : Nat → Int32} (hL : L ≤ 3072) (C0 : lw_At p s m meth c b L xs) (hlt : l.stackTraces = false) (hK : va_K (dC, dI) vwCl (cL3 cI cZ cJ) s) (hN : nW s) (hT : tW (fun q : Nat => s.heap.size ≤ q) s) (hC : cW s) (j : Nat) (hj : 6 * j + 6 ≤ L) :
    ∀ (zx : Nat → Nat) (vx : Nat → Int32) (fx : Nat → Nat → Int32) (th : Int32) (zm : Nat → Nat) (vm : Nat → Int32) (fm : Nat → Nat → Int32) (g : Nat → Int64) (H : Heap) (locs : List Loc) (ls : Array Slot), REL zx vx fx zm vm fm → va_P (dC, dI) vwCl (wL ad am cI cZ cJ o zx vx fx th zm vm fm g) H → va_D (fun q : Nat => s.heap.size ≤ q) (wL ad am cI cZ cJ o zx vx fx th zm vm fm g) → va_S (fun q : Nat => s.heap.size ≤ q) s.heap H locs → lv_has ls 7 [(0, .ref b), (1, .ref (ad 0)), (2, .ref (am 0)), (3, .ref o), (4, .int (nI (6 * j)))] → (∀ (zx : Nat → Nat) (vx : Nat → Int32) (fx : Nat → Nat → Int32) (th : Int32) (zm : Nat → Nat) (vm : Nat → Int32) (fm : Nat → Nat → Int32) (g : Nat → Int64) (H : Heap) (locs : List Loc) (ls : Array Slot), REL zx vx fx zm vm fm → va_P (dC, dI) vwCl (wL ad am cI cZ cJ o zx vx fx th zm vm fm g) H → va_D (fun q : Nat => s.heap.size ≤ q) (wL ad am cI cZ cJ o zx vx fx th zm vm fm g) → va_S (fun q : Nat => s.heap.size ≤ q) s.heap H locs → lv_has ls 7 [(0, .ref b), (1, .ref (ad 0)), (2, .ref (am 0)), (3, .ref o), (4, .int (nI (6 * j)))] → W p l e room_1 s m #[Value.ref b] below meth c H locs (41 + j + 1) (1610 + 6 * j + 6) (lw_Z below #[Value.ref b] s) (F0 m 1108 ls [])) → W p l e room_1 s m #[Value.ref b] below meth c H locs (41 + j) (1610 + 6 * j) (lw_Z below #[Value.ref b] s) (F0 m 469 ls []) := by
  obtain ⟨hx, hb, hr, hml, hown, hts0, hX, hbl, hlocks, hgv⟩ := C0
  have hts := fun w h => hts0 w (wsL_law_in w h)
  have hA : ∀ q : Nat, s.heap.size ≤ q → (fun q : Nat => s.heap.size ≤ q) q := fun _ h => h
  have hbA : ¬ (fun q : Nat => s.heap.size ≤ q) b := Nat.not_le.mpr hbl
  have hKc := hK.sub (tys' := [(cI, .int), (cZ, .boolean)]) [0, 1] rfl
  intro zx vx fx th zm vm fm g H locs ls hR hP hD hS hl hk
  have hokX := hR.1
  have hokM := hR.2.1
  refine lv_aload_n hx hb dL_law_469 rfl (lv_at hl 1 rfl) ?_
  refine lv_aload_n hx hb dL_law_470 rfl (lv_at hl 0 rfl) ?_
  refine lv_iload hx hb dL_law_471 (lv_at hl 4 rfl) ?_
  refine lv_iconst (v := 1) hx hb dL_law_473 (by decide) ?_
  refine lv_iadd hx hb dL_law_474 ?_
  refine xe_top (nI_add (6 * j) 1) ?_
  refine xs_ld hx hb hX hbl hbA hS (k := 6 * j + 1) (by omega) (by omega) dL_law_475 ?_
  refine lv_aload_n hx hb dL_law_476 rfl (lv_at hl 0 rfl) ?_
  refine lv_iload hx hb dL_law_477 (lv_at hl 4 rfl) ?_
  refine lv_iconst (v := 2) hx hb dL_law_479 (by decide) ?_
  refine lv_iadd hx hb dL_law_480 ?_
  refine xe_top (nI_add (6 * j) 2) ?_
  refine xs_ld hx hb hX hbl hbA hS (k := 6 * j + 2) (by omega) (by omega) dL_law_481 ?_
  refine lv_aload_n hx hb dL_law_482 rfl (lv_at hl 0 rfl) ?_
  refine lv_iload hx hb dL_law_483 (lv_at hl 4 rfl) ?_
  refine lv_iconst (v := 3) hx hb dL_law_485 (by decide) ?_
  refine lv_iadd hx hb dL_law_486 ?_
  refine xe_top (nI_add (6 * j) 3) ?_
  refine xs_ld hx hb hX hbl hbA hS (k := 6 * j + 3) (by omega) (by omega) dL_law_487 ?_
  refine lv_if_eq (tgt := 495) hx hb dL_law_488 (by decide) (fun cz => ?_) (fun cz => ?_)
  · refine lv_iconst (v := 0) hx hb dL_law_495 (by decide) ?_
    refine lv_aload_n hx hb dL_law_496 rfl (lv_at hl 0 rfl) ?_
    refine lv_iload hx hb dL_law_497 (lv_at hl 4 rfl) ?_
    refine lv_iconst (v := 4) hx hb dL_law_499 (by decide) ?_
    refine lv_iadd hx hb dL_law_500 ?_
    refine xe_top (nI_add (6 * j) 4) ?_
    refine xs_ld hx hb hX hbl hbA hS (k := 6 * j + 4) (by omega) (by omega) dL_law_501 ?_
    refine lv_aload_n hx hb dL_law_502 rfl (lv_at hl 3 rfl) ?_
    have hpu := pu_mandate hR (xs (6 * j + 1)) (xs (6 * j + 2)) 0 (xs (6 * j + 4)) zB_0
    have hkc := kc_mandate zx vx fx (xs (6 * j + 1)) (xs (6 * j + 2)) 0 (xs (6 * j + 4))
    have hM1 := c_L_mandate l dC dI ad cI cZ cJ zx vx fx H.size o g (xs (6 * j + 1)) (xs (6 * j + 2)) 0 (xs (6 * j + 4)) hokX hlt zB_0
    generalize F_X4_mandate zx vx fx (xs (6 * j + 1)) (xs (6 * j + 2)) 0 (xs (6 * j + 4)) = FX at hpu hkc hM1
    have hPc := hP.sub (ws' := (wXo ad cI cZ cJ o zx vx fx g)) [0, 1, 2, 3, 4, 5, 6, 7, 8, 9, 10, 11, 12, 13, 14, 15, 16, 17, 18, 19, 20, 21, 40] rfl
    have hDc := hD.sub (ws' := (wXo ad cI cZ cJ o zx vx fx g)) [0, 1, 2, 3, 4, 5, 6, 7, 8, 9, 10, 11, 12, 13, 14, 15, 16, 17, 18, 19, 20, 21, 40] (by decide) rfl
    have hFc := va_free (wc := (wXo ad cI cZ cJ o zx vx fx g)) hD hS hA [0, 1, 2, 3, 4, 5, 6, 7, 8, 9, 10, 11, 12, 13, 14, 15, 16, 17, 18, 19, 20, 21, 40] rfl
    refine va_calli (vx_runSW (hh := [(0, 14, 17, 19), (0, 14, 21, 13)]) (As := [.ref (ad 0), .int (xs (6 * j + 1)), .int (xs (6 * j + 2)), .int 0, .int (xs (6 * j + 4)), .ref o]) (rest := []) ⟨hx, hb, hml, hown, hts⟩ hM1 (vx_cwSW 6 hts gL_law_L_mandate rfl rfl rfl (by decide +kernel) ⟨Nat.le_of_ble_eq_true rfl, Nat.le_of_ble_eq_true rfl⟩) (preL hPc hK hN hDc hT hC hS hFc) rfl rfl hl.1 rfl (lv_room (Nat.le_of_ble_eq_true rfl)) dL_law_503 ⟨by show 41 + j + 1 ≤ 1080; omega, by show 1610 + 6 * j + 6 ≤ 9892; omega⟩) hS (fun q _ h => hFc q h) hFc (fun r5 g5 t9 H1 locs ht hvm hw hB hz1 hk1 hS => ?_)
    have hP1 : va_P (dC, dI) vwCl _ t9.heap := hB
    rw [ht] at hP1
    obtain ⟨hP, hD⟩ := va_join (wr := wM am cI cZ th zm vm fm) (w1 := (wXo ad cI cZ cJ o FX.2.2.1 FX.2.2.2.1 FX.2.2.2.2 g5)) hP hD [0, 1, 2, 3, 4, 5, 6, 7, 8, 9, 10, 11, 12, 13, 14, 15, 16, 17, 18, 19, 20, 21, 40] [22, 23, 24, 25, 26, 27, 28, 29, 30, 31, 32, 33, 34, 35, 36, 37, 38, 39] rfl rfl (by decide) (by decide) hk1 hFc hP1 (va_D.fst (ws := (wXo ad cI cZ cJ o zx vx fx g)) rfl (hDc.self (sz := H.size)))
    generalize H1 = H at hP hS ⊢
    have hP : va_P (dC, dI) vwCl (wL ad am cI cZ cJ o FX.2.2.1 FX.2.2.2.1 FX.2.2.2.2 th zm vm fm g5) H := hP.sub [18, 19, 20, 21, 22, 23, 24, 25, 26, 27, 28, 29, 30, 31, 32, 33, 34, 35, 36, 37, 38, 39, 0, 1, 2, 3, 4, 5, 6, 7, 8, 9, 10, 11, 12, 13, 14, 15, 16, 17, 40] rfl
    have hD : va_D (fun q : Nat => s.heap.size ≤ q) (wL ad am cI cZ cJ o FX.2.2.1 FX.2.2.2.1 FX.2.2.2.2 th zm vm fm g5) := hD.sub [18, 19, 20, 21, 22, 23, 24, 25, 26, 27, 28, 29, 30, 31, 32, 33, 34, 35, 36, 37, 38, 39, 0, 1, 2, 3, 4, 5, 6, 7, 8, 9, 10, 11, 12, 13, 14, 15, 16, 17, 40] (by decide) rfl
    refine lv_istore (lv' := [(5, .int r5), (0, .ref b), (1, .ref (ad 0)), (2, .ref (am 0)), (3, .ref o), (4, .int (nI (6 * j)))]) hx hb dL_law_506 hl (by decide) rfl (fun ls hl => ?_)
    refine lv_aload_n hx hb dL_law_508 rfl (lv_at hl 3 rfl) ?_
    refine lv_aload_n hx hb dL_law_509 rfl (lv_at hl 1 rfl) ?_
    refine lv_iload hx hb dL_law_510 (lv_at hl 5 rfl) ?_
    refine lv_iconst (v := 1) hx hb dL_law_512 (by decide) ?_
    refine lv_iadd hx hb dL_law_513 ?_
    refine xe_top (nI_add (6 * j) 1) ?_
    refine xs_ld hx hb hX hbl hbA hS (k := 6 * j + 1) (by omega) (by omega) dL_law_514 ?_
    refine lv_aload_n hx hb dL_law_515 rfl (lv_at hl 1 rfl) ?_
    refine lv_iload hx hb dL_law_516 (lv_at hl 5 rfl) ?_
    refine lv_iconst (v := 2) hx hb dL_law_518 (by decide) ?_
    refine lv_iadd hx hb dL_law_519 ?_
    refine xe_top (nI_add (6 * j) 2) ?_
    refine xs_ld hx hb hX hbl hbA hS (k := 6 * j + 2) (by omega) (by omega) dL_law_520 ?_
    refine lv_aload_n hx hb dL_law_521 rfl (lv_at hl 1 rfl) ?_
    refine lv_iload hx hb dL_law_522 (lv_at hl 5 rfl) ?_
    refine lv_iconst (v := 3) hx hb dL_law_524 (by decide) ?_
    refine lv_iadd hx hb dL_law_525 ?_
    refine xe_top (nI_add (6 * j) 3) ?_
    refine xs_ld hx hb hX hbl hbA hS (k := 6 * j + 3) (by omega) (by omega) dL_law_526 ?_
    refine lv_if_eq (tgt := 534) hx hb dL_law_527 (by decide) (fun _ => ?_) (fun h9 => absurd cz h9)
    refine lv_iconst (v := 0) hx hb dL_law_534 (by decide) ?_
    refine lv_aload_n hx hb dL_law_535 rfl (lv_at hl 1 rfl) ?_
    refine lv_iload hx hb dL_law_536 (lv_at hl 5 rfl) ?_
    refine lv_iconst (v := 4) hx hb dL_law_538 (by decide) ?_
    refine lv_iadd hx hb dL_law_539 ?_
    refine xe_top (nI_add (6 * j) 4) ?_
    refine xs_ld hx hb hX hbl hbA hS (k := 6 * j + 4) (by omega) (by omega) dL_law_540 ?_
    have hM2 := c_X5_mandate l dC dI am cI cZ th zm vm fm H.size (xs (6 * j + 1)) (xs (6 * j + 2)) 0 (xs (6 * j + 4)) hokM zB_0
    generalize F_X5_mandate zm vm fm (xs (6 * j + 1)) (xs (6 * j + 2)) 0 (xs (6 * j + 4)) = FM at hpu hM2
    have hPc := hP.sub (ws' := (wM am cI cZ th zm vm fm)) [22, 23, 24, 25, 26, 27, 28, 29, 30, 31, 32, 33, 34, 35, 36, 37, 38, 39] rfl
    have hDc := hD.sub (ws' := (wM am cI cZ th zm vm fm)) [22, 23, 24, 25, 26, 27, 28, 29, 30, 31, 32, 33, 34, 35, 36, 37, 38, 39] (by decide) rfl
    have hFc := va_free (wc := (wM am cI cZ th zm vm fm)) hD hS hA [22, 23, 24, 25, 26, 27, 28, 29, 30, 31, 32, 33, 34, 35, 36, 37, 38, 39] rfl
    refine va_calli (va_runV (As := [.int (xs (6 * j + 1)), .int (xs (6 * j + 2)), .int 0, .int (xs (6 * j + 4))]) (rest := []) ⟨hx, hb, hml, hown, hts⟩ hM2 (cwV 4 hts gL_law_X5_mandate rfl rfl rfl (by decide +kernel) ⟨Nat.le_of_ble_eq_true rfl, Nat.le_of_ble_eq_true rfl⟩) (preMw (ci := 5) (q0 := 0) hPc hKc hN hDc rfl rfl rfl) rfl rfl hl.1 rfl (lv_room (Nat.le_of_ble_eq_true rfl)) dL_law_541 ⟨by show 41 + j + 1 + 0 ≤ 1080; omega, by show 1610 + 6 * j + 6 + 0 ≤ 9892; omega⟩) hS (fun q _ h => hFc q h) hFc (fun r6 u9 t9 H1 locs ht hvm hw6 hB hz1 hk1 hS => ?_)
    have hr6 : r6 = FM.1 := hw6
    have hP1 : va_P (dC, dI) vwCl _ t9.heap := hB
    rw [ht] at hP1
    obtain ⟨hP, hD⟩ := va_join (wr := wX ad cI cZ FX.2.2.1 FX.2.2.2.1 FX.2.2.2.2 ++ [(o, .inl (cJ, 1, .inr (.inl g5)))]) (w1 := (wM am cI cZ FM.2.1 FM.2.2.1 FM.2.2.2.1 FM.2.2.2.2)) hP hD [22, 23, 24, 25, 26, 27, 28, 29, 30, 31, 32, 33, 34, 35, 36, 37, 38, 39] [0, 1, 2, 3, 4, 5, 6, 7, 8, 9, 10, 11, 12, 13, 14, 15, 16, 17, 18, 19, 20, 21, 40] rfl rfl (by decide) (by decide) hk1 hFc hP1 (va_D.fst (ws := (wM am cI cZ th zm vm fm)) rfl (hDc.self (sz := H.size)))
    generalize H1 = H at hP hS ⊢
    have hP : va_P (dC, dI) vwCl (wL ad am cI cZ cJ o FX.2.2.1 FX.2.2.2.1 FX.2.2.2.2 FM.2.1 FM.2.2.1 FM.2.2.2.1 FM.2.2.2.2 g5) H := hP.sub [0, 1, 2, 3, 4, 5, 6, 7, 8, 9, 10, 11, 12, 13, 14, 15, 16, 17, 18, 19, 20, 21, 23, 24, 25, 26, 27, 28, 29, 30, 31, 32, 33, 34, 35, 36, 37, 38, 39, 40, 22] rfl
    have hD : va_D (fun q : Nat => s.heap.size ≤ q) (wL ad am cI cZ cJ o FX.2.2.1 FX.2.2.2.1 FX.2.2.2.2 FM.2.1 FM.2.2.1 FM.2.2.2.1 FM.2.2.2.2 g5) := hD.sub [0, 1, 2, 3, 4, 5, 6, 7, 8, 9, 10, 11, 12, 13, 14, 15, 16, 17, 18, 19, 20, 21, 23, 24, 25, 26, 27, 28, 29, 30, 31, 32, 33, 34, 35, 36, 37, 38, 39, 40, 22] (by decide) rfl
    have hR2 := hpu.2.2
    refine lv_istore (lv' := [(6, .int r6), (5, .int r5), (0, .ref b), (1, .ref (ad 0)), (2, .ref (am 0)), (3, .ref o), (4, .int (nI (6 * j)))]) hx hb dL_law_544 hl (by decide) rfl (fun ls hl => ?_)
    refine lv_aload_n hx hb dL_law_546 rfl (lv_at hl 4 rfl) ?_
    have hPc := hP.sub (ws' := (wM am cI cZ FM.2.1 FM.2.2.1 FM.2.2.2.1 FM.2.2.2.2)) [22, 23, 24, 25, 26, 27, 28, 29, 30, 31, 32, 33, 34, 35, 36, 37, 38, 39] rfl
    refine vp_callSi (W.runV (As := []) (rest := []) ⟨hx, hb, hml, hown, hts⟩ (c_X5_thrown l dC dI am cI cZ FM.2.1 FM.2.2.1 FM.2.2.2.1 FM.2.2.2.2 hR2.2.1) (cwV 0 hts gL_law_X5_thrown rfl rfl rfl (by decide +kernel) ⟨Nat.le_of_ble_eq_true rfl, Nat.le_of_ble_eq_true rfl⟩) (preM (ci := 5) (q0 := 0) hPc hKc hN rfl rfl rfl) rfl rfl hl.1 rfl (lv_room (Nat.le_of_ble_eq_true rfl)) dL_law_547 ⟨by show 41 + j + 1 + 0 ≤ 1080; omega, by show 1610 + 6 * j + 6 + 0 ≤ 9892; omega⟩) (fun r7 h9 => ?_)
    have hr7 : r7 = FM.2.1 := h9
    refine lv_iload hx hb dL_law_550 (lv_at hl 1 rfl) ?_
    refine lv_icmp_eq (tgt := 557) hx hb dL_law_552 (by decide) (fun _ => ?_) (fun h9 => absurd (by rw [hr7, hw.1]; exact hpu.1) h9)
    refine lv_iload hx hb dL_law_557 (lv_at hl 1 rfl) ?_
    refine lv_if_ne (tgt := 574) hx hb dL_law_559 (by decide) (fun c5 => ?_) (fun c5 => ?_)
    · refine lv_goto (tgt := 1108) hx hb dL_law_574 (by decide) ?_
      refine W.widen (k := 41 + j + 1) (n := 1610 + 6 * j + 6) (by omega) (by omega) ?_
      exact hk FX.2.2.1 FX.2.2.2.1 FX.2.2.2.2 FM.2.1 FM.2.2.1 FM.2.2.2.1 FM.2.2.2.2 g5 H locs ls hR2 hP hD hS (lv_sub hl [2, 3, 4, 5, 6] rfl)
    · refine lv_aload_n hx hb dL_law_562 rfl (lv_at hl 5 rfl) ?_
      refine lv_iconst (v := 0) hx hb dL_law_563 (by decide) ?_
      have h0 : FX.1 = 0 := hz_mandate hkc (hw.1.symm.trans c5)
      refine va_lald hx hb hK hP 40 2 rfl rfl (vp_in_nI (n := 0) (by decide) (by decide)) dL_law_564 ?_
      refine lv_iload hx hb dL_law_565 (lv_at hl 0 rfl) ?_
      refine lv_i2l hx hb dL_law_567 rfl ?_
      refine W.lcmp hx hb dL_law_568 ?_
      refine lv_if_eq (tgt := 574) hx hb dL_law_569 (by decide) (fun _ => ?_) (fun h9 => absurd (lc_eq (by rw [hr6, ← hpu.2.1 h0]; exact hw.2 h0)) h9)
      refine lv_goto (tgt := 1108) hx hb dL_law_574 (by decide) ?_
      refine W.widen (k := 41 + j + 1) (n := 1610 + 6 * j + 6) (by omega) (by omega) ?_
      exact hk FX.2.2.1 FX.2.2.2.1 FX.2.2.2.2 FM.2.1 FM.2.2.1 FM.2.2.2.1 FM.2.2.2.2 g5 H locs ls hR2 hP hD hS (lv_sub hl [2, 3, 4, 5, 6] rfl)
  · refine lv_iconst (v := 1) hx hb dL_law_491 (by decide) ?_
    refine lv_goto (tgt := 496) hx hb dL_law_492 (by decide) ?_
    refine lv_aload_n hx hb dL_law_496 rfl (lv_at hl 0 rfl) ?_
    refine lv_iload hx hb dL_law_497 (lv_at hl 4 rfl) ?_
    refine lv_iconst (v := 4) hx hb dL_law_499 (by decide) ?_
    refine lv_iadd hx hb dL_law_500 ?_
    refine xe_top (nI_add (6 * j) 4) ?_
    refine xs_ld hx hb hX hbl hbA hS (k := 6 * j + 4) (by omega) (by omega) dL_law_501 ?_
    refine lv_aload_n hx hb dL_law_502 rfl (lv_at hl 3 rfl) ?_
    have hpu := pu_mandate hR (xs (6 * j + 1)) (xs (6 * j + 2)) 1 (xs (6 * j + 4)) zB_1
    have hkc := kc_mandate zx vx fx (xs (6 * j + 1)) (xs (6 * j + 2)) 1 (xs (6 * j + 4))
    have hM1 := c_L_mandate l dC dI ad cI cZ cJ zx vx fx H.size o g (xs (6 * j + 1)) (xs (6 * j + 2)) 1 (xs (6 * j + 4)) hokX hlt zB_1
    generalize F_X4_mandate zx vx fx (xs (6 * j + 1)) (xs (6 * j + 2)) 1 (xs (6 * j + 4)) = FX at hpu hkc hM1
    have hPc := hP.sub (ws' := (wXo ad cI cZ cJ o zx vx fx g)) [0, 1, 2, 3, 4, 5, 6, 7, 8, 9, 10, 11, 12, 13, 14, 15, 16, 17, 18, 19, 20, 21, 40] rfl
    have hDc := hD.sub (ws' := (wXo ad cI cZ cJ o zx vx fx g)) [0, 1, 2, 3, 4, 5, 6, 7, 8, 9, 10, 11, 12, 13, 14, 15, 16, 17, 18, 19, 20, 21, 40] (by decide) rfl
    have hFc := va_free (wc := (wXo ad cI cZ cJ o zx vx fx g)) hD hS hA [0, 1, 2, 3, 4, 5, 6, 7, 8, 9, 10, 11, 12, 13, 14, 15, 16, 17, 18, 19, 20, 21, 40] rfl
    refine va_calli (vx_runSW (hh := [(0, 14, 17, 19), (0, 14, 21, 13)]) (As := [.ref (ad 0), .int (xs (6 * j + 1)), .int (xs (6 * j + 2)), .int 1, .int (xs (6 * j + 4)), .ref o]) (rest := []) ⟨hx, hb, hml, hown, hts⟩ hM1 (vx_cwSW 6 hts gL_law_L_mandate rfl rfl rfl (by decide +kernel) ⟨Nat.le_of_ble_eq_true rfl, Nat.le_of_ble_eq_true rfl⟩) (preL hPc hK hN hDc hT hC hS hFc) rfl rfl hl.1 rfl (lv_room (Nat.le_of_ble_eq_true rfl)) dL_law_503 ⟨by show 41 + j + 1 ≤ 1080; omega, by show 1610 + 6 * j + 6 ≤ 9892; omega⟩) hS (fun q _ h => hFc q h) hFc (fun r5 g5 t9 H1 locs ht hvm hw hB hz1 hk1 hS => ?_)
    have hP1 : va_P (dC, dI) vwCl _ t9.heap := hB
    rw [ht] at hP1
    obtain ⟨hP, hD⟩ := va_join (wr := wM am cI cZ th zm vm fm) (w1 := (wXo ad cI cZ cJ o FX.2.2.1 FX.2.2.2.1 FX.2.2.2.2 g5)) hP hD [0, 1, 2, 3, 4, 5, 6, 7, 8, 9, 10, 11, 12, 13, 14, 15, 16, 17, 18, 19, 20, 21, 40] [22, 23, 24, 25, 26, 27, 28, 29, 30, 31, 32, 33, 34, 35, 36, 37, 38, 39] rfl rfl (by decide) (by decide) hk1 hFc hP1 (va_D.fst (ws := (wXo ad cI cZ cJ o zx vx fx g)) rfl (hDc.self (sz := H.size)))
    generalize H1 = H at hP hS ⊢
    have hP : va_P (dC, dI) vwCl (wL ad am cI cZ cJ o FX.2.2.1 FX.2.2.2.1 FX.2.2.2.2 th zm vm fm g5) H := hP.sub [18, 19, 20, 21, 22, 23, 24, 25, 26, 27, 28, 29, 30, 31, 32, 33, 34, 35, 36, 37, 38, 39, 0, 1, 2, 3, 4, 5, 6, 7, 8, 9, 10, 11, 12, 13, 14, 15, 16, 17, 40] rfl
    have hD : va_D (fun q : Nat => s.heap.size ≤ q) (wL ad am cI cZ cJ o FX.2.2.1 FX.2.2.2.1 FX.2.2.2.2 th zm vm fm g5) := hD.sub [18, 19, 20, 21, 22, 23, 24, 25, 26, 27, 28, 29, 30, 31, 32, 33, 34, 35, 36, 37, 38, 39, 0, 1, 2, 3, 4, 5, 6, 7, 8, 9, 10, 11, 12, 13, 14, 15, 16, 17, 40] (by decide) rfl
    refine lv_istore (lv' := [(5, .int r5), (0, .ref b), (1, .ref (ad 0)), (2, .ref (am 0)), (3, .ref o), (4, .int (nI (6 * j)))]) hx hb dL_law_506 hl (by decide) rfl (fun ls hl => ?_)
    refine lv_aload_n hx hb dL_law_508 rfl (lv_at hl 3 rfl) ?_
    refine lv_aload_n hx hb dL_law_509 rfl (lv_at hl 1 rfl) ?_
    refine lv_iload hx hb dL_law_510 (lv_at hl 5 rfl) ?_
    refine lv_iconst (v := 1) hx hb dL_law_512 (by decide) ?_
    refine lv_iadd hx hb dL_law_513 ?_
    refine xe_top (nI_add (6 * j) 1) ?_
    refine xs_ld hx hb hX hbl hbA hS (k := 6 * j + 1) (by omega) (by omega) dL_law_514 ?_
    refine lv_aload_n hx hb dL_law_515 rfl (lv_at hl 1 rfl) ?_
    refine lv_iload hx hb dL_law_516 (lv_at hl 5 rfl) ?_
    refine lv_iconst (v := 2) hx hb dL_law_518 (by decide) ?_
    refine lv_iadd hx hb dL_law_519 ?_
    refine xe_top (nI_add (6 * j) 2) ?_
    refine xs_ld hx hb hX hbl hbA hS (k := 6 * j + 2) (by omega) (by omega) dL_law_520 ?_
    refine lv_aload_n hx hb dL_law_521 rfl (lv_at hl 1 rfl) ?_
    refine lv_iload hx hb dL_law_522 (lv_at hl 5 rfl) ?_
    refine lv_iconst (v := 3) hx hb dL_law_524 (by decide) ?_
    refine lv_iadd hx hb dL_law_525 ?_
    refine xe_top (nI_add (6 * j) 3) ?_
    refine xs_ld hx hb hX hbl hbA hS (k := 6 * j + 3) (by omega) (by omega) dL_law_526 ?_
    refine lv_if_eq (tgt := 534) hx hb dL_law_527 (by decide) (fun h9 => absurd h9 cz) (fun _ => ?_)
    refine lv_iconst (v := 1) hx hb dL_law_530 (by decide) ?_
    refine lv_goto (tgt := 535) hx hb dL_law_531 (by decide) ?_
    refine lv_aload_n hx hb dL_law_535 rfl (lv_at hl 1 rfl) ?_
    refine lv_iload hx hb dL_law_536 (lv_at hl 5 rfl) ?_
    refine lv_iconst (v := 4) hx hb dL_law_538 (by decide) ?_
    refine lv_iadd hx hb dL_law_539 ?_
    refine xe_top (nI_add (6 * j) 4) ?_
    refine xs_ld hx hb hX hbl hbA hS (k := 6 * j + 4) (by omega) (by omega) dL_law_540 ?_
    have hM2 := c_X5_mandate l dC dI am cI cZ th zm vm fm H.size (xs (6 * j + 1)) (xs (6 * j + 2)) 1 (xs (6 * j + 4)) hokM zB_1
    generalize F_X5_mandate zm vm fm (xs (6 * j + 1)) (xs (6 * j + 2)) 1 (xs (6 * j + 4)) = FM at hpu hM2
    have hPc := hP.sub (ws' := (wM am cI cZ th zm vm fm)) [22, 23, 24, 25, 26, 27, 28, 29, 30, 31, 32, 33, 34, 35, 36, 37, 38, 39] rfl
    have hDc := hD.sub (ws' := (wM am cI cZ th zm vm fm)) [22, 23, 24, 25, 26, 27, 28, 29, 30, 31, 32, 33, 34, 35, 36, 37, 38, 39] (by decide) rfl
    have hFc := va_free (wc := (wM am cI cZ th zm vm fm)) hD hS hA [22, 23, 24, 25, 26, 27, 28, 29, 30, 31, 32, 33, 34, 35, 36, 37, 38, 39] rfl
    refine va_calli (va_runV (As := [.int (xs (6 * j + 1)), .int (xs (6 * j + 2)), .int 1, .int (xs (6 * j + 4))]) (rest := []) ⟨hx, hb, hml, hown, hts⟩ hM2 (cwV 4 hts gL_law_X5_mandate rfl rfl rfl (by decide +kernel) ⟨Nat.le_of_ble_eq_true rfl, Nat.le_of_ble_eq_true rfl⟩) (preMw (ci := 5) (q0 := 0) hPc hKc hN hDc rfl rfl rfl) rfl rfl hl.1 rfl (lv_room (Nat.le_of_ble_eq_true rfl)) dL_law_541 ⟨by show 41 + j + 1 + 0 ≤ 1080; omega, by show 1610 + 6 * j + 6 + 0 ≤ 9892; omega⟩) hS (fun q _ h => hFc q h) hFc (fun r6 u9 t9 H1 locs ht hvm hw6 hB hz1 hk1 hS => ?_)
    have hr6 : r6 = FM.1 := hw6
    have hP1 : va_P (dC, dI) vwCl _ t9.heap := hB
    rw [ht] at hP1
    obtain ⟨hP, hD⟩ := va_join (wr := wX ad cI cZ FX.2.2.1 FX.2.2.2.1 FX.2.2.2.2 ++ [(o, .inl (cJ, 1, .inr (.inl g5)))]) (w1 := (wM am cI cZ FM.2.1 FM.2.2.1 FM.2.2.2.1 FM.2.2.2.2)) hP hD [22, 23, 24, 25, 26, 27, 28, 29, 30, 31, 32, 33, 34, 35, 36, 37, 38, 39] [0, 1, 2, 3, 4, 5, 6, 7, 8, 9, 10, 11, 12, 13, 14, 15, 16, 17, 18, 19, 20, 21, 40] rfl rfl (by decide) (by decide) hk1 hFc hP1 (va_D.fst (ws := (wM am cI cZ th zm vm fm)) rfl (hDc.self (sz := H.size)))
    generalize H1 = H at hP hS ⊢
    have hP : va_P (dC, dI) vwCl (wL ad am cI cZ cJ o FX.2.2.1 FX.2.2.2.1 FX.2.2.2.2 FM.2.1 FM.2.2.1 FM.2.2.2.1 FM.2.2.2.2 g5) H := hP.sub [0, 1, 2, 3, 4, 5, 6, 7, 8, 9, 10, 11, 12, 13, 14, 15, 16, 17, 18, 19, 20, 21, 23, 24, 25, 26, 27, 28, 29, 30, 31, 32, 33, 34, 35, 36, 37, 38, 39, 40, 22] rfl
    have hD : va_D (fun q : Nat => s.heap.size ≤ q) (wL ad am cI cZ cJ o FX.2.2.1 FX.2.2.2.1 FX.2.2.2.2 FM.2.1 FM.2.2.1 FM.2.2.2.1 FM.2.2.2.2 g5) := hD.sub [0, 1, 2, 3, 4, 5, 6, 7, 8, 9, 10, 11, 12, 13, 14, 15, 16, 17, 18, 19, 20, 21, 23, 24, 25, 26, 27, 28, 29, 30, 31, 32, 33, 34, 35, 36, 37, 38, 39, 40, 22] (by decide) rfl
    have hR2 := hpu.2.2
    refine lv_istore (lv' := [(6, .int r6), (5, .int r5), (0, .ref b), (1, .ref (ad 0)), (2, .ref (am 0)), (3, .ref o), (4, .int (nI (6 * j)))]) hx hb dL_law_544 hl (by decide) rfl (fun ls hl => ?_)
    refine lv_aload_n hx hb dL_law_546 rfl (lv_at hl 4 rfl) ?_
    have hPc := hP.sub (ws' := (wM am cI cZ FM.2.1 FM.2.2.1 FM.2.2.2.1 FM.2.2.2.2)) [22, 23, 24, 25, 26, 27, 28, 29, 30, 31, 32, 33, 34, 35, 36, 37, 38, 39] rfl
    refine vp_callSi (W.runV (As := []) (rest := []) ⟨hx, hb, hml, hown, hts⟩ (c_X5_thrown l dC dI am cI cZ FM.2.1 FM.2.2.1 FM.2.2.2.1 FM.2.2.2.2 hR2.2.1) (cwV 0 hts gL_law_X5_thrown rfl rfl rfl (by decide +kernel) ⟨Nat.le_of_ble_eq_true rfl, Nat.le_of_ble_eq_true rfl⟩) (preM (ci := 5) (q0 := 0) hPc hKc hN rfl rfl rfl) rfl rfl hl.1 rfl (lv_room (Nat.le_of_ble_eq_true rfl)) dL_law_547 ⟨by show 41 + j + 1 + 0 ≤ 1080; omega, by show 1610 + 6 * j + 6 + 0 ≤ 9892; omega⟩) (fun r7 h9 => ?_)
    have hr7 : r7 = FM.2.1 := h9
    refine lv_iload hx hb dL_law_550 (lv_at hl 1 rfl) ?_
    refine lv_icmp_eq (tgt := 557) hx hb dL_law_552 (by decide) (fun _ => ?_) (fun h9 => absurd (by rw [hr7, hw.1]; exact hpu.1) h9)
    refine lv_iload hx hb dL_law_557 (lv_at hl 1 rfl) ?_
    refine lv_if_ne (tgt := 574) hx hb dL_law_559 (by decide) (fun c5 => ?_) (fun c5 => ?_)
    · refine lv_goto (tgt := 1108) hx hb dL_law_574 (by decide) ?_
      refine W.widen (k := 41 + j + 1) (n := 1610 + 6 * j + 6) (by omega) (by omega) ?_
      exact hk FX.2.2.1 FX.2.2.2.1 FX.2.2.2.2 FM.2.1 FM.2.2.1 FM.2.2.2.1 FM.2.2.2.2 g5 H locs ls hR2 hP hD hS (lv_sub hl [2, 3, 4, 5, 6] rfl)
    · refine lv_aload_n hx hb dL_law_562 rfl (lv_at hl 5 rfl) ?_
      refine lv_iconst (v := 0) hx hb dL_law_563 (by decide) ?_
      have h0 : FX.1 = 0 := hz_mandate hkc (hw.1.symm.trans c5)
      refine va_lald hx hb hK hP 40 2 rfl rfl (vp_in_nI (n := 0) (by decide) (by decide)) dL_law_564 ?_
      refine lv_iload hx hb dL_law_565 (lv_at hl 0 rfl) ?_
      refine lv_i2l hx hb dL_law_567 rfl ?_
      refine W.lcmp hx hb dL_law_568 ?_
      refine lv_if_eq (tgt := 574) hx hb dL_law_569 (by decide) (fun _ => ?_) (fun h9 => absurd (lc_eq (by rw [hr6, ← hpu.2.1 h0]; exact hw.2 h0)) h9)
      refine lv_goto (tgt := 1108) hx hb dL_law_574 (by decide) ?_
      refine W.widen (k := 41 + j + 1) (n := 1610 + 6 * j + 6) (by omega) (by omega) ?_
      exact hk FX.2.2.1 FX.2.2.2.1 FX.2.2.2.2 FM.2.1 FM.2.2.1 FM.2.2.2.1 FM.2.2.2.2 g5 H locs ls hR2 hP hD hS (lv_sub hl [2, 3, 4, 5, 6] rfl)
