set_option maxHeartbeats 4000000 in
set_option maxRecDepth 100000 in
theorem law_certified {p : Program} {l : Launch} {e : Env} {s : State} {m : MethodId} {below : List Frame} {meth : Method} {c : Code} {dC : Nat → ClassId} {dI : Nat → Nat → Nat} {ad am : Nat → Nat} {cI cZ cJ : ClassId} {o b L : Nat} {xs : Nat → Int32} (hL : L ≤ 3072) (C0 : lw_At p s m meth c b L xs) (hlt : l.stackTraces = false) (hK : va_K (dC, dI) vwCl (cL3 cI cZ cJ) s) (hN : nW s) (hT : tW (fun q : Nat => s.heap.size ≤ q) s) (hC : cW s) (j : Nat) (hj : 6 * j + 6 ≤ L) :
    ∀ (zx : Nat → Nat) (vx : Nat → Int32) (fx : Nat → Nat → Int32) (th : Int32) (zm : Nat → Nat) (vm : Nat → Int32) (fm : Nat → Nat → Int32) (g : Nat → Int64) (H : Heap) (locs : List Loc) (ls : Array Slot), REL zx vx fx zm vm fm → va_P (dC, dI) vwCl (wL ad am cI cZ cJ o zx vx fx th zm vm fm g) H → va_D (fun q : Nat => s.heap.size ≤ q) (wL ad am cI cZ cJ o zx vx fx th zm vm fm g) → va_S (fun q : Nat => s.heap.size ≤ q) s.heap H locs → lv_has ls 7 [(0, .ref b), (1, .ref (ad 0)), (2, .ref (am 0)), (3, .ref o), (4, .int (nI (6 * j)))] → (∀ (zx : Nat → Nat) (vx : Nat → Int32) (fx : Nat → Nat → Int32) (th : Int32) (zm : Nat → Nat) (vm : Nat → Int32) (fm : Nat → Nat → Int32) (g : Nat → Int64) (H : Heap) (locs : List Loc) (ls : Array Slot), REL zx vx fx zm vm fm → va_P (dC, dI) vwCl (wL ad am cI cZ cJ o zx vx fx th zm vm fm g) H → va_D (fun q : Nat => s.heap.size ≤ q) (wL ad am cI cZ cJ o zx vx fx th zm vm fm g) → va_S (fun q : Nat => s.heap.size ≤ q) s.heap H locs → lv_has ls 7 [(0, .ref b), (1, .ref (ad 0)), (2, .ref (am 0)), (3, .ref o), (4, .int (nI (6 * j)))] → W p l e room_1 s m #[Value.ref b] below meth c H locs (41 + j + 1) (1610 + 6 * j + 6) (lw_Z below #[Value.ref b] s) (F0 m 1108 ls [])) → W p l e room_1 s m #[Value.ref b] below meth c H locs (41 + j) (1610 + 6 * j) (lw_Z below #[Value.ref b] s) (F0 m 990 ls []) := by
  obtain ⟨hx, hb, hr, hml, hown, hts0, hX, hbl, hlocks, hgv⟩ := C0
  have hts := fun w h => hts0 w (wsL_law_in w h)
  have hA : ∀ q : Nat, s.heap.size ≤ q → (fun q : Nat => s.heap.size ≤ q) q := fun _ h => h
  have hbA : ¬ (fun q : Nat => s.heap.size ≤ q) b := Nat.not_le.mpr hbl
  have hKc := hK.sub (tys' := [(cI, .int), (cZ, .boolean)]) [0, 1] rfl
  intro zx vx fx th zm vm fm g H locs ls hR hP hD hS hl hk
  have hokX := hR.1
  have hokM := hR.2.1
  refine lv_aload_n hx hb dL_law_990 rfl (lv_at hl 1 rfl) ?_
  have hpu := pu_certified hR
  have hPc := hP.sub (ws' := (wX ad cI cZ zx vx fx)) [0, 1, 2, 3, 4, 5, 6, 7, 8, 9, 10, 11, 12, 13, 14, 15, 16, 17, 18, 19, 20, 21] rfl
  have hM1 := c_X4_certified l dC dI ad cI cZ zx vx fx hokX
  generalize F_X4_certified zx vx fx = FX at hpu hM1
  refine vp_callSi (W.runV (As := []) (rest := []) ⟨hx, hb, hml, hown, hts⟩ hM1 (cwV 0 hts gL_law_X4_certified rfl rfl rfl (by decide +kernel) ⟨Nat.le_of_ble_eq_true rfl, Nat.le_of_ble_eq_true rfl⟩) (preX (ci := 4) (q0 := 0) hPc hKc hN rfl rfl rfl) rfl rfl hl.1 rfl (lv_room (Nat.le_of_ble_eq_true rfl)) dL_law_991 ⟨by show 41 + j + 0 ≤ 1080; omega, by show 1610 + 6 * j + 0 ≤ 9892; omega⟩) (fun r5 h9 => ?_)
  have hr5 : r5 = FX := h9
  refine lv_aload_n hx hb dL_law_994 rfl (lv_at hl 2 rfl) ?_
  have hM2 := c_X5_certified l dC dI am cI cZ th zm vm fm H.size hokM
  generalize F_X5_certified zm vm fm = FM at hpu hM2
  have hPc := hP.sub (ws' := (wM am cI cZ th zm vm fm)) [22, 23, 24, 25, 26, 27, 28, 29, 30, 31, 32, 33, 34, 35, 36, 37, 38, 39] rfl
  have hDc := hD.sub (ws' := (wM am cI cZ th zm vm fm)) [22, 23, 24, 25, 26, 27, 28, 29, 30, 31, 32, 33, 34, 35, 36, 37, 38, 39] (by decide) rfl
  have hFc := va_free (wc := (wM am cI cZ th zm vm fm)) hD hS hA [22, 23, 24, 25, 26, 27, 28, 29, 30, 31, 32, 33, 34, 35, 36, 37, 38, 39] rfl
  refine va_calli (va_runV (As := []) (rest := [.int r5]) ⟨hx, hb, hml, hown, hts⟩ hM2 (cwV 0 hts gL_law_X5_certified rfl rfl rfl (by decide +kernel) ⟨Nat.le_of_ble_eq_true rfl, Nat.le_of_ble_eq_true rfl⟩) (preMw (ci := 5) (q0 := 0) hPc hKc hN hDc rfl rfl rfl) rfl rfl hl.1 rfl (lv_room (Nat.le_of_ble_eq_true rfl)) dL_law_995 ⟨by show 41 + j + 0 ≤ 1080; omega, by show 1610 + 6 * j + 0 ≤ 9892; omega⟩) hS (fun q _ h => hFc q h) hFc (fun r6 u9 t9 H1 locs ht hvm hw6 hB hz1 hk1 hS => ?_)
  have hr6 : r6 = FM.1 := hw6
  have hP1 : va_P (dC, dI) vwCl _ t9.heap := hB
  rw [ht] at hP1
  obtain ⟨hP, hD⟩ := va_join (wr := wX ad cI cZ zx vx fx ++ [(o, .inl (cJ, 1, .inr (.inl g)))]) (w1 := (wM am cI cZ FM.2.1 FM.2.2.1 FM.2.2.2.1 FM.2.2.2.2)) hP hD [22, 23, 24, 25, 26, 27, 28, 29, 30, 31, 32, 33, 34, 35, 36, 37, 38, 39] [0, 1, 2, 3, 4, 5, 6, 7, 8, 9, 10, 11, 12, 13, 14, 15, 16, 17, 18, 19, 20, 21, 40] rfl rfl (by decide) (by decide) hk1 hFc hP1 (va_D.fst (ws := (wM am cI cZ th zm vm fm)) rfl (hDc.self (sz := H.size)))
  generalize H1 = H at hP hS ⊢
  have hP : va_P (dC, dI) vwCl (wL ad am cI cZ cJ o zx vx fx FM.2.1 FM.2.2.1 FM.2.2.2.1 FM.2.2.2.2 g) H := hP.sub [0, 1, 2, 3, 4, 5, 6, 7, 8, 9, 10, 11, 12, 13, 14, 15, 16, 17, 18, 19, 20, 21, 23, 24, 25, 26, 27, 28, 29, 30, 31, 32, 33, 34, 35, 36, 37, 38, 39, 40, 22] rfl
  have hD : va_D (fun q : Nat => s.heap.size ≤ q) (wL ad am cI cZ cJ o zx vx fx FM.2.1 FM.2.2.1 FM.2.2.2.1 FM.2.2.2.2 g) := hD.sub [0, 1, 2, 3, 4, 5, 6, 7, 8, 9, 10, 11, 12, 13, 14, 15, 16, 17, 18, 19, 20, 21, 23, 24, 25, 26, 27, 28, 29, 30, 31, 32, 33, 34, 35, 36, 37, 38, 39, 40, 22] (by decide) rfl
  have hR2 := hpu.2
  refine lv_icmp_eq (tgt := 1108) hx hb dL_law_998 (by decide) (fun _ => ?_) (fun h9 => absurd (by rw [hr5, hr6]; exact hpu.1) h9)
  refine W.widen (k := 41 + j + 1) (n := 1610 + 6 * j + 6) (by omega) (by omega) ?_
  exact hk zx vx fx FM.2.1 FM.2.2.1 FM.2.2.2.1 FM.2.2.2.2 g H locs ls hR2 hP hD hS (lv_sub hl [0, 1, 2, 3, 4] rfl)
set_option maxHeartbeats 4000000 in
set_option maxRecDepth 100000 in
theorem law_look {p : Program} {l : Launch} {e : Env} {s : State} {m : MethodId} {below : List Frame} {meth : Method} {c : Code} {dC : Nat → ClassId} {dI : Nat → Nat → Nat} {ad am : Nat → Nat} {cI cZ cJ : ClassId} {o b L : Nat} {xs : Nat → Int32} (hL : L ≤ 3072) (C0 : lw_At p s m meth c b L xs) (hlt : l.stackTraces = false) (hK : va_K (dC, dI) vwCl (cL3 cI cZ cJ) s) (hN : nW s) (hT : tW (fun q : Nat => s.heap.size ≤ q) s) (hC : cW s) (j : Nat) (hj : 6 * j + 6 ≤ L) :
    ∀ (zx : Nat → Nat) (vx : Nat → Int32) (fx : Nat → Nat → Int32) (th : Int32) (zm : Nat → Nat) (vm : Nat → Int32) (fm : Nat → Nat → Int32) (g : Nat → Int64) (H : Heap) (locs : List Loc) (ls : Array Slot), REL zx vx fx zm vm fm → va_P (dC, dI) vwCl (wL ad am cI cZ cJ o zx vx fx th zm vm fm g) H → va_D (fun q : Nat => s.heap.size ≤ q) (wL ad am cI cZ cJ o zx vx fx th zm vm fm g) → va_S (fun q : Nat => s.heap.size ≤ q) s.heap H locs → lv_has ls 7 [(0, .ref b), (1, .ref (ad 0)), (2, .ref (am 0)), (3, .ref o), (4, .int (nI (6 * j)))] → (∀ (zx : Nat → Nat) (vx : Nat → Int32) (fx : Nat → Nat → Int32) (th : Int32) (zm : Nat → Nat) (vm : Nat → Int32) (fm : Nat → Nat → Int32) (g : Nat → Int64) (H : Heap) (locs : List Loc) (ls : Array Slot), REL zx vx fx zm vm fm → va_P (dC, dI) vwCl (wL ad am cI cZ cJ o zx vx fx th zm vm fm g) H → va_D (fun q : Nat => s.heap.size ≤ q) (wL ad am cI cZ cJ o zx vx fx th zm vm fm g) → va_S (fun q : Nat => s.heap.size ≤ q) s.heap H locs → lv_has ls 7 [(0, .ref b), (1, .ref (ad 0)), (2, .ref (am 0)), (3, .ref o), (4, .int (nI (6 * j)))] → W p l e room_1 s m #[Value.ref b] below meth c H locs (41 + j + 1) (1610 + 6 * j + 6) (lw_Z below #[Value.ref b] s) (F0 m 1108 ls [])) → W p l e room_1 s m #[Value.ref b] below meth c H locs (41 + j) (1610 + 6 * j) (lw_Z below #[Value.ref b] s) (F0 m 1003 ls []) := by
  obtain ⟨hx, hb, hr, hml, hown, hts0, hX, hbl, hlocks, hgv⟩ := C0
  have hts := fun w h => hts0 w (wsL_law_in w h)
  have hA : ∀ q : Nat, s.heap.size ≤ q → (fun q : Nat => s.heap.size ≤ q) q := fun _ h => h
  have hbA : ¬ (fun q : Nat => s.heap.size ≤ q) b := Nat.not_le.mpr hbl
  have hKc := hK.sub (tys' := [(cI, .int), (cZ, .boolean)]) [0, 1] rfl
  intro zx vx fx th zm vm fm g H locs ls hR hP hD hS hl hk
  have hokX := hR.1
  have hokM := hR.2.1
  refine lv_aload_n hx hb dL_law_1003 rfl (lv_at hl 1 rfl) ?_
  refine lv_aload_n hx hb dL_law_1004 rfl (lv_at hl 0 rfl) ?_
  refine lv_iload hx hb dL_law_1005 (lv_at hl 4 rfl) ?_
  refine lv_iconst (v := 1) hx hb dL_law_1007 (by decide) ?_
  refine lv_iadd hx hb dL_law_1008 ?_
  refine xe_top (nI_add (6 * j) 1) ?_
  refine xs_ld hx hb hX hbl hbA hS (k := 6 * j + 1) (by omega) (by omega) dL_law_1009 ?_
  refine lv_aload_n hx hb dL_law_1010 rfl (lv_at hl 0 rfl) ?_
  refine lv_iload hx hb dL_law_1011 (lv_at hl 4 rfl) ?_
  refine lv_iconst (v := 2) hx hb dL_law_1013 (by decide) ?_
  refine lv_iadd hx hb dL_law_1014 ?_
  refine xe_top (nI_add (6 * j) 2) ?_
  refine xs_ld hx hb hX hbl hbA hS (k := 6 * j + 2) (by omega) (by omega) dL_law_1015 ?_
  refine lv_aload_n hx hb dL_law_1016 rfl (lv_at hl 0 rfl) ?_
  refine lv_iload hx hb dL_law_1017 (lv_at hl 4 rfl) ?_
  refine lv_iconst (v := 3) hx hb dL_law_1019 (by decide) ?_
  refine lv_iadd hx hb dL_law_1020 ?_
  refine xe_top (nI_add (6 * j) 3) ?_
  refine xs_ld hx hb hX hbl hbA hS (k := 6 * j + 3) (by omega) (by omega) dL_law_1021 ?_
  refine lv_aload_n hx hb dL_law_1022 rfl (lv_at hl 3 rfl) ?_
  have hpu := pu_look hR (xs (6 * j + 1)) (xs (6 * j + 2)) (xs (6 * j + 3))
  have hkc := kc_look zx vx fx (xs (6 * j + 1)) (xs (6 * j + 2)) (xs (6 * j + 3))
  have hM1 := c_L_look l dC dI ad cI cZ cJ zx vx fx H.size o g (xs (6 * j + 1)) (xs (6 * j + 2)) (xs (6 * j + 3)) hokX hlt
  generalize F_X4_look zx vx fx (xs (6 * j + 1)) (xs (6 * j + 2)) (xs (6 * j + 3)) = FX at hpu hkc hM1
  have hPc := hP.sub (ws' := (wXo ad cI cZ cJ o zx vx fx g)) [0, 1, 2, 3, 4, 5, 6, 7, 8, 9, 10, 11, 12, 13, 14, 15, 16, 17, 18, 19, 20, 21, 40] rfl
  have hDc := hD.sub (ws' := (wXo ad cI cZ cJ o zx vx fx g)) [0, 1, 2, 3, 4, 5, 6, 7, 8, 9, 10, 11, 12, 13, 14, 15, 16, 17, 18, 19, 20, 21, 40] (by decide) rfl
  have hFc := va_free (wc := (wXo ad cI cZ cJ o zx vx fx g)) hD hS hA [0, 1, 2, 3, 4, 5, 6, 7, 8, 9, 10, 11, 12, 13, 14, 15, 16, 17, 18, 19, 20, 21, 40] rfl
  refine va_calli (vx_runSW (hh := [(0, 12, 15, 39), (0, 12, 19, 19)]) (As := [.ref (ad 0), .int (xs (6 * j + 1)), .int (xs (6 * j + 2)), .int (xs (6 * j + 3)), .ref o]) (rest := []) ⟨hx, hb, hml, hown, hts⟩ hM1 (vx_cwSW 5 hts gL_law_L_look rfl rfl rfl (by decide +kernel) ⟨Nat.le_of_ble_eq_true rfl, Nat.le_of_ble_eq_true rfl⟩) (preL hPc hK hN hDc hT hC hS hFc) rfl rfl hl.1 rfl (lv_room (Nat.le_of_ble_eq_true rfl)) dL_law_1023 ⟨by show 41 + j + 1 ≤ 1080; omega, by show 1610 + 6 * j + 6 ≤ 9892; omega⟩) hS (fun q _ h => hFc q h) hFc (fun r5 g5 t9 H1 locs ht hvm hw hB hz1 hk1 hS => ?_)
  have hP1 : va_P (dC, dI) vwCl _ t9.heap := hB
  rw [ht] at hP1
  obtain ⟨hP, hD⟩ := va_join (wr := wM am cI cZ th zm vm fm) (w1 := (wXo ad cI cZ cJ o FX.2.2.1 FX.2.2.2.1 FX.2.2.2.2 g5)) hP hD [0, 1, 2, 3, 4, 5, 6, 7, 8, 9, 10, 11, 12, 13, 14, 15, 16, 17, 18, 19, 20, 21, 40] [22, 23, 24, 25, 26, 27, 28, 29, 30, 31, 32, 33, 34, 35, 36, 37, 38, 39] rfl rfl (by decide) (by decide) hk1 hFc hP1 (va_D.fst (ws := (wXo ad cI cZ cJ o zx vx fx g)) rfl (hDc.self (sz := H.size)))
  generalize H1 = H at hP hS ⊢
  have hP : va_P (dC, dI) vwCl (wL ad am cI cZ cJ o FX.2.2.1 FX.2.2.2.1 FX.2.2.2.2 th zm vm fm g5) H := hP.sub [18, 19, 20, 21, 22, 23, 24, 25, 26, 27, 28, 29, 30, 31, 32, 33, 34, 35, 36, 37, 38, 39, 0, 1, 2, 3, 4, 5, 6, 7, 8, 9, 10, 11, 12, 13, 14, 15, 16, 17, 40] rfl
  have hD : va_D (fun q : Nat => s.heap.size ≤ q) (wL ad am cI cZ cJ o FX.2.2.1 FX.2.2.2.1 FX.2.2.2.2 th zm vm fm g5) := hD.sub [18, 19, 20, 21, 22, 23, 24, 25, 26, 27, 28, 29, 30, 31, 32, 33, 34, 35, 36, 37, 38, 39, 0, 1, 2, 3, 4, 5, 6, 7, 8, 9, 10, 11, 12, 13, 14, 15, 16, 17, 40] (by decide) rfl
  refine lv_istore (lv' := [(5, .int r5), (0, .ref b), (1, .ref (ad 0)), (2, .ref (am 0)), (3, .ref o), (4, .int (nI (6 * j)))]) hx hb dL_law_1026 hl (by decide) rfl (fun ls hl => ?_)
  refine lv_aload_n hx hb dL_law_1028 rfl (lv_at hl 3 rfl) ?_
  refine lv_aload_n hx hb dL_law_1029 rfl (lv_at hl 1 rfl) ?_
  refine lv_iload hx hb dL_law_1030 (lv_at hl 5 rfl) ?_
  refine lv_iconst (v := 1) hx hb dL_law_1032 (by decide) ?_
  refine lv_iadd hx hb dL_law_1033 ?_
  refine xe_top (nI_add (6 * j) 1) ?_
  refine xs_ld hx hb hX hbl hbA hS (k := 6 * j + 1) (by omega) (by omega) dL_law_1034 ?_
  refine lv_aload_n hx hb dL_law_1035 rfl (lv_at hl 1 rfl) ?_
  refine lv_iload hx hb dL_law_1036 (lv_at hl 5 rfl) ?_
  refine lv_iconst (v := 2) hx hb dL_law_1038 (by decide) ?_
  refine lv_iadd hx hb dL_law_1039 ?_
  refine xe_top (nI_add (6 * j) 2) ?_
  refine xs_ld hx hb hX hbl hbA hS (k := 6 * j + 2) (by omega) (by omega) dL_law_1040 ?_
  refine lv_aload_n hx hb dL_law_1041 rfl (lv_at hl 1 rfl) ?_
  refine lv_iload hx hb dL_law_1042 (lv_at hl 5 rfl) ?_
  refine lv_iconst (v := 3) hx hb dL_law_1044 (by decide) ?_
  refine lv_iadd hx hb dL_law_1045 ?_
  refine xe_top (nI_add (6 * j) 3) ?_
  refine xs_ld hx hb hX hbl hbA hS (k := 6 * j + 3) (by omega) (by omega) dL_law_1046 ?_
  have hM2 := c_X5_look l dC dI am cI cZ th zm vm fm H.size (xs (6 * j + 1)) (xs (6 * j + 2)) (xs (6 * j + 3)) hokM
  generalize F_X5_look zm vm fm (xs (6 * j + 1)) (xs (6 * j + 2)) (xs (6 * j + 3)) = FM at hpu hM2
  have hPc := hP.sub (ws' := (wM am cI cZ th zm vm fm)) [22, 23, 24, 25, 26, 27, 28, 29, 30, 31, 32, 33, 34, 35, 36, 37, 38, 39] rfl
  have hDc := hD.sub (ws' := (wM am cI cZ th zm vm fm)) [22, 23, 24, 25, 26, 27, 28, 29, 30, 31, 32, 33, 34, 35, 36, 37, 38, 39] (by decide) rfl
  have hFc := va_free (wc := (wM am cI cZ th zm vm fm)) hD hS hA [22, 23, 24, 25, 26, 27, 28, 29, 30, 31, 32, 33, 34, 35, 36, 37, 38, 39] rfl
  refine va_calli (va_runV (As := [.int (xs (6 * j + 1)), .int (xs (6 * j + 2)), .int (xs (6 * j + 3))]) (rest := []) ⟨hx, hb, hml, hown, hts⟩ hM2 (cwV 3 hts gL_law_X5_look rfl rfl rfl (by decide +kernel) ⟨Nat.le_of_ble_eq_true rfl, Nat.le_of_ble_eq_true rfl⟩) (preMw (ci := 5) (q0 := 0) hPc hKc hN hDc rfl rfl rfl) rfl rfl hl.1 rfl (lv_room (Nat.le_of_ble_eq_true rfl)) dL_law_1047 ⟨by show 41 + j + 1 + 0 ≤ 1080; omega, by show 1610 + 6 * j + 6 + 0 ≤ 9892; omega⟩) hS (fun q _ h => hFc q h) hFc (fun r6 u9 t9 H1 locs ht hvm hw6 hB hz1 hk1 hS => ?_)
  have hr6 : r6 = FM.1 := hw6
  have hP1 : va_P (dC, dI) vwCl _ t9.heap := hB
  rw [ht] at hP1
  obtain ⟨hP, hD⟩ := va_join (wr := wX ad cI cZ FX.2.2.1 FX.2.2.2.1 FX.2.2.2.2 ++ [(o, .inl (cJ, 1, .inr (.inl g5)))]) (w1 := (wM am cI cZ FM.2.1 FM.2.2.1 FM.2.2.2.1 FM.2.2.2.2)) hP hD [22, 23, 24, 25, 26, 27, 28, 29, 30, 31, 32, 33, 34, 35, 36, 37, 38, 39] [0, 1, 2, 3, 4, 5, 6, 7, 8, 9, 10, 11, 12, 13, 14, 15, 16, 17, 18, 19, 20, 21, 40] rfl rfl (by decide) (by decide) hk1 hFc hP1 (va_D.fst (ws := (wM am cI cZ th zm vm fm)) rfl (hDc.self (sz := H.size)))
  generalize H1 = H at hP hS ⊢
  have hP : va_P (dC, dI) vwCl (wL ad am cI cZ cJ o FX.2.2.1 FX.2.2.2.1 FX.2.2.2.2 FM.2.1 FM.2.2.1 FM.2.2.2.1 FM.2.2.2.2 g5) H := hP.sub [0, 1, 2, 3, 4, 5, 6, 7, 8, 9, 10, 11, 12, 13, 14, 15, 16, 17, 18, 19, 20, 21, 23, 24, 25, 26, 27, 28, 29, 30, 31, 32, 33, 34, 35, 36, 37, 38, 39, 40, 22] rfl
  have hD : va_D (fun q : Nat => s.heap.size ≤ q) (wL ad am cI cZ cJ o FX.2.2.1 FX.2.2.2.1 FX.2.2.2.2 FM.2.1 FM.2.2.1 FM.2.2.2.1 FM.2.2.2.2 g5) := hD.sub [0, 1, 2, 3, 4, 5, 6, 7, 8, 9, 10, 11, 12, 13, 14, 15, 16, 17, 18, 19, 20, 21, 23, 24, 25, 26, 27, 28, 29, 30, 31, 32, 33, 34, 35, 36, 37, 38, 39, 40, 22] (by decide) rfl
  have hR2 := hpu.2.2
  refine lv_istore (lv' := [(6, .int r6), (5, .int r5), (0, .ref b), (1, .ref (ad 0)), (2, .ref (am 0)), (3, .ref o), (4, .int (nI (6 * j)))]) hx hb dL_law_1050 hl (by decide) rfl (fun ls hl => ?_)
  refine lv_aload_n hx hb dL_law_1052 rfl (lv_at hl 4 rfl) ?_
  have hPc := hP.sub (ws' := (wM am cI cZ FM.2.1 FM.2.2.1 FM.2.2.2.1 FM.2.2.2.2)) [22, 23, 24, 25, 26, 27, 28, 29, 30, 31, 32, 33, 34, 35, 36, 37, 38, 39] rfl
  refine vp_callSi (W.runV (As := []) (rest := []) ⟨hx, hb, hml, hown, hts⟩ (c_X5_thrown l dC dI am cI cZ FM.2.1 FM.2.2.1 FM.2.2.2.1 FM.2.2.2.2 hR2.2.1) (cwV 0 hts gL_law_X5_thrown rfl rfl rfl (by decide +kernel) ⟨Nat.le_of_ble_eq_true rfl, Nat.le_of_ble_eq_true rfl⟩) (preM (ci := 5) (q0 := 0) hPc hKc hN rfl rfl rfl) rfl rfl hl.1 rfl (lv_room (Nat.le_of_ble_eq_true rfl)) dL_law_1053 ⟨by show 41 + j + 1 + 0 ≤ 1080; omega, by show 1610 + 6 * j + 6 + 0 ≤ 9892; omega⟩) (fun r7 h9 => ?_)
  have hr7 : r7 = FM.2.1 := h9
  refine lv_iload hx hb dL_law_1056 (lv_at hl 1 rfl) ?_
  refine lv_icmp_eq (tgt := 1063) hx hb dL_law_1058 (by decide) (fun _ => ?_) (fun h9 => absurd (by rw [hr7, hw.1]; exact hpu.1) h9)
  refine lv_iload hx hb dL_law_1063 (lv_at hl 1 rfl) ?_
  refine lv_if_ne (tgt := 1080) hx hb dL_law_1065 (by decide) (fun c5 => ?_) (fun c5 => ?_)
  · refine lv_goto (tgt := 1108) hx hb dL_law_1080 (by decide) ?_
    refine W.widen (k := 41 + j + 1) (n := 1610 + 6 * j + 6) (by omega) (by omega) ?_
    exact hk FX.2.2.1 FX.2.2.2.1 FX.2.2.2.2 FM.2.1 FM.2.2.1 FM.2.2.2.1 FM.2.2.2.2 g5 H locs ls hR2 hP hD hS (lv_sub hl [2, 3, 4, 5, 6] rfl)
  · refine lv_aload_n hx hb dL_law_1068 rfl (lv_at hl 5 rfl) ?_
    refine lv_iconst (v := 0) hx hb dL_law_1069 (by decide) ?_
    have h0 : FX.1 = 0 := hz_look hkc (hw.1.symm.trans c5)
    refine va_lald hx hb hK hP 40 2 rfl rfl (vp_in_nI (n := 0) (by decide) (by decide)) dL_law_1070 ?_
    refine lv_iload hx hb dL_law_1071 (lv_at hl 0 rfl) ?_
    refine lv_i2l hx hb dL_law_1073 rfl ?_
    refine W.lcmp hx hb dL_law_1074 ?_
    refine lv_if_eq (tgt := 1080) hx hb dL_law_1075 (by decide) (fun _ => ?_) (fun h9 => absurd (lc_eq (by rw [hr6, ← hpu.2.1 h0]; exact hw.2 h0)) h9)
    refine lv_goto (tgt := 1108) hx hb dL_law_1080 (by decide) ?_
    refine W.widen (k := 41 + j + 1) (n := 1610 + 6 * j + 6) (by omega) (by omega) ?_
    exact hk FX.2.2.1 FX.2.2.2.1 FX.2.2.2.2 FM.2.1 FM.2.2.1 FM.2.2.2.1 FM.2.2.2.2 g5 H locs ls hR2 hP hD hS (lv_sub hl [2, 3, 4, 5, 6] rfl)
set_option maxHeartbeats 4000000 in
set_option maxRecDepth 100000 in
theorem law_count {p : Program} {l : Launch} {e : Env} {s : State} {m : MethodId} {below : List Frame} {meth : Method} {c : Code} {dC : Nat → ClassId} {dI : Nat → Nat → Nat} {ad am : Nat → Nat} {cI cZ cJ : ClassId} {o b L : Nat} {xs : Nat → Int32} (hL : L ≤ 3072) (C0 : lw_At p s m meth c b L xs) (hlt : l.stackTraces = false) (hK : va_K (dC, dI) vwCl (cL3 cI cZ cJ) s) (hN : nW s) (hT : tW (fun q : Nat => s.heap.size ≤ q) s) (hC : cW s) (j : Nat) (hj : 6 * j + 6 ≤ L) :
    ∀ (zx : Nat → Nat) (vx : Nat → Int32) (fx : Nat → Nat → Int32) (th : Int32) (zm : Nat → Nat) (vm : Nat → Int32) (fm : Nat → Nat → Int32) (g : Nat → Int64) (H : Heap) (locs : List Loc) (ls : Array Slot), REL zx vx fx zm vm fm → va_P (dC, dI) vwCl (wL ad am cI cZ cJ o zx vx fx th zm vm fm g) H → va_D (fun q : Nat => s.heap.size ≤ q) (wL ad am cI cZ cJ o zx vx fx th zm vm fm g) → va_S (fun q : Nat => s.heap.size ≤ q) s.heap H locs → lv_has ls 7 [(0, .ref b), (1, .ref (ad 0)), (2, .ref (am 0)), (3, .ref o), (4, .int (nI (6 * j)))] → (∀ (zx : Nat → Nat) (vx : Nat → Int32) (fx : Nat → Nat → Int32) (th : Int32) (zm : Nat → Nat) (vm : Nat → Int32) (fm : Nat → Nat → Int32) (g : Nat → Int64) (H : Heap) (locs : List Loc) (ls : Array Slot), REL zx vx fx zm vm fm → va_P (dC, dI) vwCl (wL ad am cI cZ cJ o zx vx fx th zm vm fm g) H → va_D (fun q : Nat => s.heap.size ≤ q) (wL ad am cI cZ cJ o zx vx fx th zm vm fm g) → va_S (fun q : Nat => s.heap.size ≤ q) s.heap H locs → lv_has ls 7 [(0, .ref b), (1, .ref (ad 0)), (2, .ref (am 0)), (3, .ref o), (4, .int (nI (6 * j)))] → W p l e room_1 s m #[Value.ref b] below meth c H locs (41 + j + 1) (1610 + 6 * j + 6) (lw_Z below #[Value.ref b] s) (F0 m 1108 ls [])) → W p l e room_1 s m #[Value.ref b] below meth c H locs (41 + j) (1610 + 6 * j) (lw_Z below #[Value.ref b] s) (F0 m 1083 ls []) := by
  obtain ⟨hx, hb, hr, hml, hown, hts0, hX, hbl, hlocks, hgv⟩ := C0
  have hts := fun w h => hts0 w (wsL_law_in w h)
  have hA : ∀ q : Nat, s.heap.size ≤ q → (fun q : Nat => s.heap.size ≤ q) q := fun _ h => h
  have hbA : ¬ (fun q : Nat => s.heap.size ≤ q) b := Nat.not_le.mpr hbl
  have hKc := hK.sub (tys' := [(cI, .int), (cZ, .boolean)]) [0, 1] rfl
  intro zx vx fx th zm vm fm g H locs ls hR hP hD hS hl hk
  have hokX := hR.1
  have hokM := hR.2.1
  refine lv_aload_n hx hb dL_law_1083 rfl (lv_at hl 1 rfl) ?_
  refine lv_aload_n hx hb dL_law_1084 rfl (lv_at hl 0 rfl) ?_
  refine lv_iload hx hb dL_law_1085 (lv_at hl 4 rfl) ?_
  refine lv_iconst (v := 1) hx hb dL_law_1087 (by decide) ?_
  refine lv_iadd hx hb dL_law_1088 ?_
  refine xe_top (nI_add (6 * j) 1) ?_
  refine xs_ld hx hb hX hbl hbA hS (k := 6 * j + 1) (by omega) (by omega) dL_law_1089 ?_
  have hpu := pu_count hR (xs (6 * j + 1))
  have hPc := hP.sub (ws' := (wX ad cI cZ zx vx fx)) [0, 1, 2, 3, 4, 5, 6, 7, 8, 9, 10, 11, 12, 13, 14, 15, 16, 17, 18, 19, 20, 21] rfl
  have hM1 := c_X4_count l dC dI ad cI cZ zx vx fx (xs (6 * j + 1)) hokX
  generalize F_X4_count zx vx fx (xs (6 * j + 1)) = FX at hpu hM1
  refine vp_callSi (W.runV (As := [.int (xs (6 * j + 1))]) (rest := []) ⟨hx, hb, hml, hown, hts⟩ hM1 (cwV 1 hts gL_law_X4_count rfl rfl rfl (by decide +kernel) ⟨Nat.le_of_ble_eq_true rfl, Nat.le_of_ble_eq_true rfl⟩) (preX (ci := 4) (q0 := 0) hPc hKc hN rfl rfl rfl) rfl rfl hl.1 rfl (lv_room (Nat.le_of_ble_eq_true rfl)) dL_law_1090 ⟨by show 41 + j + 0 ≤ 1080; omega, by show 1610 + 6 * j + 0 ≤ 9892; omega⟩) (fun r5 h9 => ?_)
  have hr5 : r5 = FX := h9
  refine lv_aload_n hx hb dL_law_1093 rfl (lv_at hl 2 rfl) ?_
  refine lv_aload_n hx hb dL_law_1094 rfl (lv_at hl 0 rfl) ?_
  refine lv_iload hx hb dL_law_1095 (lv_at hl 4 rfl) ?_
  refine lv_iconst (v := 1) hx hb dL_law_1097 (by decide) ?_
  refine lv_iadd hx hb dL_law_1098 ?_
  refine xe_top (nI_add (6 * j) 1) ?_
  refine xs_ld hx hb hX hbl hbA hS (k := 6 * j + 1) (by omega) (by omega) dL_law_1099 ?_
  have hM2 := c_X5_count l dC dI am cI cZ th zm vm fm H.size (xs (6 * j + 1)) hokM
  generalize F_X5_count zm vm fm (xs (6 * j + 1)) = FM at hpu hM2
  have hPc := hP.sub (ws' := (wM am cI cZ th zm vm fm)) [22, 23, 24, 25, 26, 27, 28, 29, 30, 31, 32, 33, 34, 35, 36, 37, 38, 39] rfl
  have hDc := hD.sub (ws' := (wM am cI cZ th zm vm fm)) [22, 23, 24, 25, 26, 27, 28, 29, 30, 31, 32, 33, 34, 35, 36, 37, 38, 39] (by decide) rfl
  have hFc := va_free (wc := (wM am cI cZ th zm vm fm)) hD hS hA [22, 23, 24, 25, 26, 27, 28, 29, 30, 31, 32, 33, 34, 35, 36, 37, 38, 39] rfl
  refine va_calli (va_runV (As := [.int (xs (6 * j + 1))]) (rest := [.int r5]) ⟨hx, hb, hml, hown, hts⟩ hM2 (cwV 1 hts gL_law_X5_count rfl rfl rfl (by decide +kernel) ⟨Nat.le_of_ble_eq_true rfl, Nat.le_of_ble_eq_true rfl⟩) (preMw (ci := 5) (q0 := 0) hPc hKc hN hDc rfl rfl rfl) rfl rfl hl.1 rfl (lv_room (Nat.le_of_ble_eq_true rfl)) dL_law_1100 ⟨by show 41 + j + 0 ≤ 1080; omega, by show 1610 + 6 * j + 0 ≤ 9892; omega⟩) hS (fun q _ h => hFc q h) hFc (fun r6 u9 t9 H1 locs ht hvm hw6 hB hz1 hk1 hS => ?_)
  have hr6 : r6 = FM.1 := hw6
  have hP1 : va_P (dC, dI) vwCl _ t9.heap := hB
  rw [ht] at hP1
  obtain ⟨hP, hD⟩ := va_join (wr := wX ad cI cZ zx vx fx ++ [(o, .inl (cJ, 1, .inr (.inl g)))]) (w1 := (wM am cI cZ FM.2.1 FM.2.2.1 FM.2.2.2.1 FM.2.2.2.2)) hP hD [22, 23, 24, 25, 26, 27, 28, 29, 30, 31, 32, 33, 34, 35, 36, 37, 38, 39] [0, 1, 2, 3, 4, 5, 6, 7, 8, 9, 10, 11, 12, 13, 14, 15, 16, 17, 18, 19, 20, 21, 40] rfl rfl (by decide) (by decide) hk1 hFc hP1 (va_D.fst (ws := (wM am cI cZ th zm vm fm)) rfl (hDc.self (sz := H.size)))
  generalize H1 = H at hP hS ⊢
  have hP : va_P (dC, dI) vwCl (wL ad am cI cZ cJ o zx vx fx FM.2.1 FM.2.2.1 FM.2.2.2.1 FM.2.2.2.2 g) H := hP.sub [0, 1, 2, 3, 4, 5, 6, 7, 8, 9, 10, 11, 12, 13, 14, 15, 16, 17, 18, 19, 20, 21, 23, 24, 25, 26, 27, 28, 29, 30, 31, 32, 33, 34, 35, 36, 37, 38, 39, 40, 22] rfl
  have hD : va_D (fun q : Nat => s.heap.size ≤ q) (wL ad am cI cZ cJ o zx vx fx FM.2.1 FM.2.2.1 FM.2.2.2.1 FM.2.2.2.2 g) := hD.sub [0, 1, 2, 3, 4, 5, 6, 7, 8, 9, 10, 11, 12, 13, 14, 15, 16, 17, 18, 19, 20, 21, 23, 24, 25, 26, 27, 28, 29, 30, 31, 32, 33, 34, 35, 36, 37, 38, 39, 40, 22] (by decide) rfl
  have hR2 := hpu.2
  refine lv_icmp_eq (tgt := 1108) hx hb dL_law_1103 (by decide) (fun _ => ?_) (fun h9 => absurd (by rw [hr5, hr6]; exact hpu.1) h9)
  refine W.widen (k := 41 + j + 1) (n := 1610 + 6 * j + 6) (by omega) (by omega) ?_
  exact hk zx vx fx FM.2.1 FM.2.2.1 FM.2.2.2.1 FM.2.2.2.2 g H locs ls hR2 hP hD hS (lv_sub hl [0, 1, 2, 3, 4] rfl)
