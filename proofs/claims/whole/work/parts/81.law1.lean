set_option maxHeartbeats 4000000 in
set_option maxRecDepth 100000 in
theorem law_trader {p : Program} {l : Launch} {e : Env} {s : State} {m : MethodId} {below : List Frame} {meth : Method} {c : Code} {dC : Nat → ClassId} {dI : Nat → Nat → Nat} {ad am : Nat → Nat} {cI cZ cJ : ClassId} {o b L : Nat} {xs : Nat → Int32} (hL : L ≤ 3072) (C0 : lw_At p s m meth c b L xs) (hlt : l.stackTraces = false) (hK : va_K (dC, dI) vwCl (cL3 cI cZ cJ) s) (hN : nW s) (hT : tW (fun q : Nat => s.heap.size ≤ q) s) (hC : cW s) (j : Nat) (hj : 6 * j + 6 ≤ L) :
    ∀ (zx : Nat → Nat) (vx : Nat → Int32) (fx : Nat → Nat → Int32) (th : Int32) (zm : Nat → Nat) (vm : Nat → Int32) (fm : Nat → Nat → Int32) (g : Nat → Int64) (H : Heap) (locs : List Loc) (ls : Array Slot), REL zx vx fx zm vm fm → va_P (dC, dI) vwCl (wL ad am cI cZ cJ o zx vx fx th zm vm fm g) H → va_D (fun q : Nat => s.heap.size ≤ q) (wL ad am cI cZ cJ o zx vx fx th zm vm fm g) → va_S (fun q : Nat => s.heap.size ≤ q) s.heap H locs → lv_has ls 7 [(0, .ref b), (1, .ref (ad 0)), (2, .ref (am 0)), (3, .ref o), (4, .int (nI (6 * j)))] → (∀ (zx : Nat → Nat) (vx : Nat → Int32) (fx : Nat → Nat → Int32) (th : Int32) (zm : Nat → Nat) (vm : Nat → Int32) (fm : Nat → Nat → Int32) (g : Nat → Int64) (H : Heap) (locs : List Loc) (ls : Array Slot), REL zx vx fx zm vm fm → va_P (dC, dI) vwCl (wL ad am cI cZ cJ o zx vx fx th zm vm fm g) H → va_D (fun q : Nat => s.heap.size ≤ q) (wL ad am cI cZ cJ o zx vx fx th zm vm fm g) → va_S (fun q : Nat => s.heap.size ≤ q) s.heap H locs → lv_has ls 7 [(0, .ref b), (1, .ref (ad 0)), (2, .ref (am 0)), (3, .ref o), (4, .int (nI (6 * j)))] → W p l e room_1 s m #[Value.ref b] below meth c H locs (41 + j + 1) (1610 + 6 * j + 6) (lw_Z below #[Value.ref b] s) (F0 m 1108 ls [])) → W p l e room_1 s m #[Value.ref b] below meth c H locs (41 + j) (1610 + 6 * j) (lw_Z below #[Value.ref b] s) (F0 m 120 ls []) := by
  obtain ⟨hx, hb, hr, hml, hown, hts0, hX, hbl, hlocks, hgv⟩ := C0
  have hts := fun w h => hts0 w (wsL_law_in w h)
  have hA : ∀ q : Nat, s.heap.size ≤ q → (fun q : Nat => s.heap.size ≤ q) q := fun _ h => h
  have hbA : ¬ (fun q : Nat => s.heap.size ≤ q) b := Nat.not_le.mpr hbl
  have hKc := hK.sub (tys' := [(cI, .int), (cZ, .boolean)]) [0, 1] rfl
  intro zx vx fx th zm vm fm g H locs ls hR hP hD hS hl hk
  have hokX := hR.1
  have hokM := hR.2.1
  refine lv_aload_n hx hb dL_law_120 rfl (lv_at hl 1 rfl) ?_
  refine lv_aload_n hx hb dL_law_121 rfl (lv_at hl 3 rfl) ?_
  have hpu := pu_trader hR
  have hkc := kc_trader zx vx fx
  have hM1 := c_L_trader l dC dI ad cI cZ cJ zx vx fx H.size o g hokX hlt
  generalize F_X4_trader zx vx fx = FX at hpu hkc hM1
  have hPc := hP.sub (ws' := (wXo ad cI cZ cJ o zx vx fx g)) [0, 1, 2, 3, 4, 5, 6, 7, 8, 9, 10, 11, 12, 13, 14, 15, 16, 17, 18, 19, 20, 21, 40] rfl
  have hDc := hD.sub (ws' := (wXo ad cI cZ cJ o zx vx fx g)) [0, 1, 2, 3, 4, 5, 6, 7, 8, 9, 10, 11, 12, 13, 14, 15, 16, 17, 18, 19, 20, 21, 40] (by decide) rfl
  have hFc := va_free (wc := (wXo ad cI cZ cJ o zx vx fx g)) hD hS hA [0, 1, 2, 3, 4, 5, 6, 7, 8, 9, 10, 11, 12, 13, 14, 15, 16, 17, 18, 19, 20, 21, 40] rfl
  refine va_calli (vx_runSW (hh := [(0, 8, 11, 13)]) (As := [.ref (ad 0), .ref o]) (rest := []) ⟨hx, hb, hml, hown, hts⟩ hM1 (vx_cwSW 2 hts gL_law_L_trader rfl rfl rfl (by decide +kernel) ⟨Nat.le_of_ble_eq_true rfl, Nat.le_of_ble_eq_true rfl⟩) (preL hPc hK hN hDc hT hC hS hFc) rfl rfl hl.1 rfl (lv_room (Nat.le_of_ble_eq_true rfl)) dL_law_122 ⟨by show 41 + j + 1 ≤ 1080; omega, by show 1610 + 6 * j + 6 ≤ 9892; omega⟩) hS (fun q _ h => hFc q h) hFc (fun r5 g5 t9 H1 locs ht hvm hw hB hz1 hk1 hS => ?_)
  have hP1 : va_P (dC, dI) vwCl _ t9.heap := hB
  rw [ht] at hP1
  obtain ⟨hP, hD⟩ := va_join (wr := wM am cI cZ th zm vm fm) (w1 := (wXo ad cI cZ cJ o FX.2.2.1 FX.2.2.2.1 FX.2.2.2.2 g5)) hP hD [0, 1, 2, 3, 4, 5, 6, 7, 8, 9, 10, 11, 12, 13, 14, 15, 16, 17, 18, 19, 20, 21, 40] [22, 23, 24, 25, 26, 27, 28, 29, 30, 31, 32, 33, 34, 35, 36, 37, 38, 39] rfl rfl (by decide) (by decide) hk1 hFc hP1 (va_D.fst (ws := (wXo ad cI cZ cJ o zx vx fx g)) rfl (hDc.self (sz := H.size)))
  generalize H1 = H at hP hS ⊢
  have hP : va_P (dC, dI) vwCl (wL ad am cI cZ cJ o FX.2.2.1 FX.2.2.2.1 FX.2.2.2.2 th zm vm fm g5) H := hP.sub [18, 19, 20, 21, 22, 23, 24, 25, 26, 27, 28, 29, 30, 31, 32, 33, 34, 35, 36, 37, 38, 39, 0, 1, 2, 3, 4, 5, 6, 7, 8, 9, 10, 11, 12, 13, 14, 15, 16, 17, 40] rfl
  have hD : va_D (fun q : Nat => s.heap.size ≤ q) (wL ad am cI cZ cJ o FX.2.2.1 FX.2.2.2.1 FX.2.2.2.2 th zm vm fm g5) := hD.sub [18, 19, 20, 21, 22, 23, 24, 25, 26, 27, 28, 29, 30, 31, 32, 33, 34, 35, 36, 37, 38, 39, 0, 1, 2, 3, 4, 5, 6, 7, 8, 9, 10, 11, 12, 13, 14, 15, 16, 17, 40] (by decide) rfl
  refine lv_istore (lv' := [(5, .int r5), (0, .ref b), (1, .ref (ad 0)), (2, .ref (am 0)), (3, .ref o), (4, .int (nI (6 * j)))]) hx hb dL_law_125 hl (by decide) rfl (fun ls hl => ?_)
  refine lv_aload_n hx hb dL_law_127 rfl (lv_at hl 3 rfl) ?_
  have hM2 := c_X5_trader l dC dI am cI cZ th zm vm fm H.size hokM
  generalize F_X5_trader zm vm fm = FM at hpu hM2
  have hPc := hP.sub (ws' := (wM am cI cZ th zm vm fm)) [22, 23, 24, 25, 26, 27, 28, 29, 30, 31, 32, 33, 34, 35, 36, 37, 38, 39] rfl
  have hDc := hD.sub (ws' := (wM am cI cZ th zm vm fm)) [22, 23, 24, 25, 26, 27, 28, 29, 30, 31, 32, 33, 34, 35, 36, 37, 38, 39] (by decide) rfl
  have hFc := va_free (wc := (wM am cI cZ th zm vm fm)) hD hS hA [22, 23, 24, 25, 26, 27, 28, 29, 30, 31, 32, 33, 34, 35, 36, 37, 38, 39] rfl
  refine va_calli (va_runV (As := []) (rest := []) ⟨hx, hb, hml, hown, hts⟩ hM2 (cwV 0 hts gL_law_X5_trader rfl rfl rfl (by decide +kernel) ⟨Nat.le_of_ble_eq_true rfl, Nat.le_of_ble_eq_true rfl⟩) (preMw (ci := 5) (q0 := 0) hPc hKc hN hDc rfl rfl rfl) rfl rfl hl.1 rfl (lv_room (Nat.le_of_ble_eq_true rfl)) dL_law_128 ⟨by show 41 + j + 1 + 0 ≤ 1080; omega, by show 1610 + 6 * j + 6 + 0 ≤ 9892; omega⟩) hS (fun q _ h => hFc q h) hFc (fun r6 u9 t9 H1 locs ht hvm hw6 hB hz1 hk1 hS => ?_)
  have hr6 : r6 = FM.1 := hw6
  have hP1 : va_P (dC, dI) vwCl _ t9.heap := hB
  rw [ht] at hP1
  obtain ⟨hP, hD⟩ := va_join (wr := wX ad cI cZ FX.2.2.1 FX.2.2.2.1 FX.2.2.2.2 ++ [(o, .inl (cJ, 1, .inr (.inl g5)))]) (w1 := (wM am cI cZ FM.2.1 FM.2.2.1 FM.2.2.2.1 FM.2.2.2.2)) hP hD [22, 23, 24, 25, 26, 27, 28, 29, 30, 31, 32, 33, 34, 35, 36, 37, 38, 39] [0, 1, 2, 3, 4, 5, 6, 7, 8, 9, 10, 11, 12, 13, 14, 15, 16, 17, 18, 19, 20, 21, 40] rfl rfl (by decide) (by decide) hk1 hFc hP1 (va_D.fst (ws := (wM am cI cZ th zm vm fm)) rfl (hDc.self (sz := H.size)))
  generalize H1 = H at hP hS ⊢
  have hP : va_P (dC, dI) vwCl (wL ad am cI cZ cJ o FX.2.2.1 FX.2.2.2.1 FX.2.2.2.2 FM.2.1 FM.2.2.1 FM.2.2.2.1 FM.2.2.2.2 g5) H := hP.sub [0, 1, 2, 3, 4, 5, 6, 7, 8, 9, 10, 11, 12, 13, 14, 15, 16, 17, 18, 19, 20, 21, 23, 24, 25, 26, 27, 28, 29, 30, 31, 32, 33, 34, 35, 36, 37, 38, 39, 40, 22] rfl
  have hD : va_D (fun q : Nat => s.heap.size ≤ q) (wL ad am cI cZ cJ o FX.2.2.1 FX.2.2.2.1 FX.2.2.2.2 FM.2.1 FM.2.2.1 FM.2.2.2.1 FM.2.2.2.2 g5) := hD.sub [0, 1, 2, 3, 4, 5, 6, 7, 8, 9, 10, 11, 12, 13, 14, 15, 16, 17, 18, 19, 20, 21, 23, 24, 25, 26, 27, 28, 29, 30, 31, 32, 33, 34, 35, 36, 37, 38, 39, 40, 22] (by decide) rfl
  have hR2 := hpu.2.2
  refine lv_istore (lv' := [(6, .int r6), (5, .int r5), (0, .ref b), (1, .ref (ad 0)), (2, .ref (am 0)), (3, .ref o), (4, .int (nI (6 * j)))]) hx hb dL_law_131 hl (by decide) rfl (fun ls hl => ?_)
  refine lv_aload_n hx hb dL_law_133 rfl (lv_at hl 4 rfl) ?_
  have hPc := hP.sub (ws' := (wM am cI cZ FM.2.1 FM.2.2.1 FM.2.2.2.1 FM.2.2.2.2)) [22, 23, 24, 25, 26, 27, 28, 29, 30, 31, 32, 33, 34, 35, 36, 37, 38, 39] rfl
  refine vp_callSi (W.runV (As := []) (rest := []) ⟨hx, hb, hml, hown, hts⟩ (c_X5_thrown l dC dI am cI cZ FM.2.1 FM.2.2.1 FM.2.2.2.1 FM.2.2.2.2 hR2.2.1) (cwV 0 hts gL_law_X5_thrown rfl rfl rfl (by decide +kernel) ⟨Nat.le_of_ble_eq_true rfl, Nat.le_of_ble_eq_true rfl⟩) (preM (ci := 5) (q0 := 0) hPc hKc hN rfl rfl rfl) rfl rfl hl.1 rfl (lv_room (Nat.le_of_ble_eq_true rfl)) dL_law_134 ⟨by show 41 + j + 1 + 0 ≤ 1080; omega, by show 1610 + 6 * j + 6 + 0 ≤ 9892; omega⟩) (fun r7 h9 => ?_)
  have hr7 : r7 = FM.2.1 := h9
  refine lv_iload hx hb dL_law_137 (lv_at hl 1 rfl) ?_
  refine lv_icmp_eq (tgt := 144) hx hb dL_law_139 (by decide) (fun _ => ?_) (fun h9 => absurd (by rw [hr7, hw.1]; exact hpu.1) h9)
  refine lv_iload hx hb dL_law_144 (lv_at hl 1 rfl) ?_
  refine lv_if_ne (tgt := 161) hx hb dL_law_146 (by decide) (fun c5 => ?_) (fun c5 => ?_)
  · refine lv_goto (tgt := 1108) hx hb dL_law_161 (by decide) ?_
    refine W.widen (k := 41 + j + 1) (n := 1610 + 6 * j + 6) (by omega) (by omega) ?_
    exact hk FX.2.2.1 FX.2.2.2.1 FX.2.2.2.2 FM.2.1 FM.2.2.1 FM.2.2.2.1 FM.2.2.2.2 g5 H locs ls hR2 hP hD hS (lv_sub hl [2, 3, 4, 5, 6] rfl)
  · refine lv_aload_n hx hb dL_law_149 rfl (lv_at hl 5 rfl) ?_
    refine lv_iconst (v := 0) hx hb dL_law_150 (by decide) ?_
    have h0 : FX.1 = 0 := hz_trader hkc (hw.1.symm.trans c5)
    refine va_lald hx hb hK hP 40 2 rfl rfl (vp_in_nI (n := 0) (by decide) (by decide)) dL_law_151 ?_
    refine lv_iload hx hb dL_law_152 (lv_at hl 0 rfl) ?_
    refine lv_i2l hx hb dL_law_154 rfl ?_
    refine W.lcmp hx hb dL_law_155 ?_
    refine lv_if_eq (tgt := 161) hx hb dL_law_156 (by decide) (fun _ => ?_) (fun h9 => absurd (lc_eq (by rw [hr6, ← hpu.2.1 h0]; exact hw.2 h0)) h9)
    refine lv_goto (tgt := 1108) hx hb dL_law_161 (by decide) ?_
    refine W.widen (k := 41 + j + 1) (n := 1610 + 6 * j + 6) (by omega) (by omega) ?_
    exact hk FX.2.2.1 FX.2.2.2.1 FX.2.2.2.2 FM.2.1 FM.2.2.1 FM.2.2.2.1 FM.2.2.2.2 g5 H locs ls hR2 hP hD hS (lv_sub hl [2, 3, 4, 5, 6] rfl)
set_option maxHeartbeats 4000000 in
set_option maxRecDepth 100000 in
theorem law_right {p : Program} {l : Launch} {e : Env} {s : State} {m : MethodId} {below : List Frame} {meth : Method} {c : Code} {dC : Nat → ClassId} {dI : Nat → Nat → Nat} {ad am : Nat → Nat} {cI cZ cJ : ClassId} {o b L : Nat} {xs : Nat → Int32} (hL : L ≤ 3072) (C0 : lw_At p s m meth c b L xs) (hlt : l.stackTraces = false) (hK : va_K (dC, dI) vwCl (cL3 cI cZ cJ) s) (hN : nW s) (hT : tW (fun q : Nat => s.heap.size ≤ q) s) (hC : cW s) (j : Nat) (hj : 6 * j + 6 ≤ L) :
    ∀ (zx : Nat → Nat) (vx : Nat → Int32) (fx : Nat → Nat → Int32) (th : Int32) (zm : Nat → Nat) (vm : Nat → Int32) (fm : Nat → Nat → Int32) (g : Nat → Int64) (H : Heap) (locs : List Loc) (ls : Array Slot), REL zx vx fx zm vm fm → va_P (dC, dI) vwCl (wL ad am cI cZ cJ o zx vx fx th zm vm fm g) H → va_D (fun q : Nat => s.heap.size ≤ q) (wL ad am cI cZ cJ o zx vx fx th zm vm fm g) → va_S (fun q : Nat => s.heap.size ≤ q) s.heap H locs → lv_has ls 7 [(0, .ref b), (1, .ref (ad 0)), (2, .ref (am 0)), (3, .ref o), (4, .int (nI (6 * j)))] → (∀ (zx : Nat → Nat) (vx : Nat → Int32) (fx : Nat → Nat → Int32) (th : Int32) (zm : Nat → Nat) (vm : Nat → Int32) (fm : Nat → Nat → Int32) (g : Nat → Int64) (H : Heap) (locs : List Loc) (ls : Array Slot), REL zx vx fx zm vm fm → va_P (dC, dI) vwCl (wL ad am cI cZ cJ o zx vx fx th zm vm fm g) H → va_D (fun q : Nat => s.heap.size ≤ q) (wL ad am cI cZ cJ o zx vx fx th zm vm fm g) → va_S (fun q : Nat => s.heap.size ≤ q) s.heap H locs → lv_has ls 7 [(0, .ref b), (1, .ref (ad 0)), (2, .ref (am 0)), (3, .ref o), (4, .int (nI (6 * j)))] → W p l e room_1 s m #[Value.ref b] below meth c H locs (41 + j + 1) (1610 + 6 * j + 6) (lw_Z below #[Value.ref b] s) (F0 m 1108 ls [])) → W p l e room_1 s m #[Value.ref b] below meth c H locs (41 + j) (1610 + 6 * j) (lw_Z below #[Value.ref b] s) (F0 m 164 ls []) := by
  obtain ⟨hx, hb, hr, hml, hown, hts0, hX, hbl, hlocks, hgv⟩ := C0
  have hts := fun w h => hts0 w (wsL_law_in w h)
  have hA : ∀ q : Nat, s.heap.size ≤ q → (fun q : Nat => s.heap.size ≤ q) q := fun _ h => h
  have hbA : ¬ (fun q : Nat => s.heap.size ≤ q) b := Nat.not_le.mpr hbl
  have hKc := hK.sub (tys' := [(cI, .int), (cZ, .boolean)]) [0, 1] rfl
  intro zx vx fx th zm vm fm g H locs ls hR hP hD hS hl hk
  have hokX := hR.1
  have hokM := hR.2.1
  refine lv_aload_n hx hb dL_law_164 rfl (lv_at hl 1 rfl) ?_
  refine lv_aload_n hx hb dL_law_165 rfl (lv_at hl 0 rfl) ?_
  refine lv_iload hx hb dL_law_166 (lv_at hl 4 rfl) ?_
  refine lv_iconst (v := 1) hx hb dL_law_168 (by decide) ?_
  refine lv_iadd hx hb dL_law_169 ?_
  refine xe_top (nI_add (6 * j) 1) ?_
  refine xs_ld hx hb hX hbl hbA hS (k := 6 * j + 1) (by omega) (by omega) dL_law_170 ?_
  refine lv_aload_n hx hb dL_law_171 rfl (lv_at hl 0 rfl) ?_
  refine lv_iload hx hb dL_law_172 (lv_at hl 4 rfl) ?_
  refine lv_iconst (v := 2) hx hb dL_law_174 (by decide) ?_
  refine lv_iadd hx hb dL_law_175 ?_
  refine xe_top (nI_add (6 * j) 2) ?_
  refine xs_ld hx hb hX hbl hbA hS (k := 6 * j + 2) (by omega) (by omega) dL_law_176 ?_
  refine lv_aload_n hx hb dL_law_177 rfl (lv_at hl 0 rfl) ?_
  refine lv_iload hx hb dL_law_178 (lv_at hl 4 rfl) ?_
  refine lv_iconst (v := 3) hx hb dL_law_180 (by decide) ?_
  refine lv_iadd hx hb dL_law_181 ?_
  refine xe_top (nI_add (6 * j) 3) ?_
  refine xs_ld hx hb hX hbl hbA hS (k := 6 * j + 3) (by omega) (by omega) dL_law_182 ?_
  refine lv_aload_n hx hb dL_law_183 rfl (lv_at hl 0 rfl) ?_
  refine lv_iload hx hb dL_law_184 (lv_at hl 4 rfl) ?_
  refine lv_iconst (v := 4) hx hb dL_law_186 (by decide) ?_
  refine lv_iadd hx hb dL_law_187 ?_
  refine xe_top (nI_add (6 * j) 4) ?_
  refine xs_ld hx hb hX hbl hbA hS (k := 6 * j + 4) (by omega) (by omega) dL_law_188 ?_
  refine lv_aload_n hx hb dL_law_189 rfl (lv_at hl 0 rfl) ?_
  refine lv_iload hx hb dL_law_190 (lv_at hl 4 rfl) ?_
  refine lv_iconst (v := 5) hx hb dL_law_192 (by decide) ?_
  refine lv_iadd hx hb dL_law_193 ?_
  refine xe_top (nI_add (6 * j) 5) ?_
  refine xs_ld hx hb hX hbl hbA hS (k := 6 * j + 5) (by omega) (by omega) dL_law_194 ?_
  refine lv_aload_n hx hb dL_law_195 rfl (lv_at hl 3 rfl) ?_
  have hpu := pu_right hR (xs (6 * j + 1)) (xs (6 * j + 2)) (xs (6 * j + 3)) (xs (6 * j + 4)) (xs (6 * j + 5))
  have hkc := kc_right zx vx fx (xs (6 * j + 1)) (xs (6 * j + 2)) (xs (6 * j + 3)) (xs (6 * j + 4)) (xs (6 * j + 5))
  have hM1 := c_L_right l dC dI ad cI cZ cJ zx vx fx H.size o g (xs (6 * j + 1)) (xs (6 * j + 2)) (xs (6 * j + 3)) (xs (6 * j + 4)) (xs (6 * j + 5)) hokX hlt
  generalize F_X4_right zx vx fx (xs (6 * j + 1)) (xs (6 * j + 2)) (xs (6 * j + 3)) (xs (6 * j + 4)) (xs (6 * j + 5)) = FX at hpu hkc hM1
  have hPc := hP.sub (ws' := (wXo ad cI cZ cJ o zx vx fx g)) [0, 1, 2, 3, 4, 5, 6, 7, 8, 9, 10, 11, 12, 13, 14, 15, 16, 17, 18, 19, 20, 21, 40] rfl
  have hDc := hD.sub (ws' := (wXo ad cI cZ cJ o zx vx fx g)) [0, 1, 2, 3, 4, 5, 6, 7, 8, 9, 10, 11, 12, 13, 14, 15, 16, 17, 18, 19, 20, 21, 40] (by decide) rfl
  have hFc := va_free (wc := (wXo ad cI cZ cJ o zx vx fx g)) hD hS hA [0, 1, 2, 3, 4, 5, 6, 7, 8, 9, 10, 11, 12, 13, 14, 15, 16, 17, 18, 19, 20, 21, 40] rfl
  refine va_calli (vx_runSW (hh := [(0, 16, 19, 19), (0, 16, 23, 13)]) (As := [.ref (ad 0), .int (xs (6 * j + 1)), .int (xs (6 * j + 2)), .int (xs (6 * j + 3)), .int (xs (6 * j + 4)), .int (xs (6 * j + 5)), .ref o]) (rest := []) ⟨hx, hb, hml, hown, hts⟩ hM1 (vx_cwSW 7 hts gL_law_L_right rfl rfl rfl (by decide +kernel) ⟨Nat.le_of_ble_eq_true rfl, Nat.le_of_ble_eq_true rfl⟩) (preL hPc hK hN hDc hT hC hS hFc) rfl rfl hl.1 rfl (lv_room (Nat.le_of_ble_eq_true rfl)) dL_law_196 ⟨by show 41 + j + 1 ≤ 1080; omega, by show 1610 + 6 * j + 6 ≤ 9892; omega⟩) hS (fun q _ h => hFc q h) hFc (fun r5 g5 t9 H1 locs ht hvm hw hB hz1 hk1 hS => ?_)
  have hP1 : va_P (dC, dI) vwCl _ t9.heap := hB
  rw [ht] at hP1
  obtain ⟨hP, hD⟩ := va_join (wr := wM am cI cZ th zm vm fm) (w1 := (wXo ad cI cZ cJ o FX.2.2.1 FX.2.2.2.1 FX.2.2.2.2 g5)) hP hD [0, 1, 2, 3, 4, 5, 6, 7, 8, 9, 10, 11, 12, 13, 14, 15, 16, 17, 18, 19, 20, 21, 40] [22, 23, 24, 25, 26, 27, 28, 29, 30, 31, 32, 33, 34, 35, 36, 37, 38, 39] rfl rfl (by decide) (by decide) hk1 hFc hP1 (va_D.fst (ws := (wXo ad cI cZ cJ o zx vx fx g)) rfl (hDc.self (sz := H.size)))
  generalize H1 = H at hP hS ⊢
  have hP : va_P (dC, dI) vwCl (wL ad am cI cZ cJ o FX.2.2.1 FX.2.2.2.1 FX.2.2.2.2 th zm vm fm g5) H := hP.sub [18, 19, 20, 21, 22, 23, 24, 25, 26, 27, 28, 29, 30, 31, 32, 33, 34, 35, 36, 37, 38, 39, 0, 1, 2, 3, 4, 5, 6, 7, 8, 9, 10, 11, 12, 13, 14, 15, 16, 17, 40] rfl
  have hD : va_D (fun q : Nat => s.heap.size ≤ q) (wL ad am cI cZ cJ o FX.2.2.1 FX.2.2.2.1 FX.2.2.2.2 th zm vm fm g5) := hD.sub [18, 19, 20, 21, 22, 23, 24, 25, 26, 27, 28, 29, 30, 31, 32, 33, 34, 35, 36, 37, 38, 39, 0, 1, 2, 3, 4, 5, 6, 7, 8, 9, 10, 11, 12, 13, 14, 15, 16, 17, 40] (by decide) rfl
  refine lv_istore (lv' := [(5, .int r5), (0, .ref b), (1, .ref (ad 0)), (2, .ref (am 0)), (3, .ref o), (4, .int (nI (6 * j)))]) hx hb dL_law_199 hl (by decide) rfl (fun ls hl => ?_)
  refine lv_aload_n hx hb dL_law_201 rfl (lv_at hl 3 rfl) ?_
  refine lv_aload_n hx hb dL_law_202 rfl (lv_at hl 1 rfl) ?_
  refine lv_iload hx hb dL_law_203 (lv_at hl 5 rfl) ?_
  refine lv_iconst (v := 1) hx hb dL_law_205 (by decide) ?_
  refine lv_iadd hx hb dL_law_206 ?_
  refine xe_top (nI_add (6 * j) 1) ?_
  refine xs_ld hx hb hX hbl hbA hS (k := 6 * j + 1) (by omega) (by omega) dL_law_207 ?_
  refine lv_aload_n hx hb dL_law_208 rfl (lv_at hl 1 rfl) ?_
  refine lv_iload hx hb dL_law_209 (lv_at hl 5 rfl) ?_
  refine lv_iconst (v := 2) hx hb dL_law_211 (by decide) ?_
  refine lv_iadd hx hb dL_law_212 ?_
  refine xe_top (nI_add (6 * j) 2) ?_
  refine xs_ld hx hb hX hbl hbA hS (k := 6 * j + 2) (by omega) (by omega) dL_law_213 ?_
  refine lv_aload_n hx hb dL_law_214 rfl (lv_at hl 1 rfl) ?_
  refine lv_iload hx hb dL_law_215 (lv_at hl 5 rfl) ?_
  refine lv_iconst (v := 3) hx hb dL_law_217 (by decide) ?_
  refine lv_iadd hx hb dL_law_218 ?_
  refine xe_top (nI_add (6 * j) 3) ?_
  refine xs_ld hx hb hX hbl hbA hS (k := 6 * j + 3) (by omega) (by omega) dL_law_219 ?_
  refine lv_aload_n hx hb dL_law_220 rfl (lv_at hl 1 rfl) ?_
  refine lv_iload hx hb dL_law_221 (lv_at hl 5 rfl) ?_
  refine lv_iconst (v := 4) hx hb dL_law_223 (by decide) ?_
  refine lv_iadd hx hb dL_law_224 ?_
  refine xe_top (nI_add (6 * j) 4) ?_
  refine xs_ld hx hb hX hbl hbA hS (k := 6 * j + 4) (by omega) (by omega) dL_law_225 ?_
  refine lv_aload_n hx hb dL_law_226 rfl (lv_at hl 1 rfl) ?_
  refine lv_iload hx hb dL_law_227 (lv_at hl 5 rfl) ?_
  refine lv_iconst (v := 5) hx hb dL_law_229 (by decide) ?_
  refine lv_iadd hx hb dL_law_230 ?_
  refine xe_top (nI_add (6 * j) 5) ?_
  refine xs_ld hx hb hX hbl hbA hS (k := 6 * j + 5) (by omega) (by omega) dL_law_231 ?_
  have hM2 := c_X5_right l dC dI am cI cZ th zm vm fm H.size (xs (6 * j + 1)) (xs (6 * j + 2)) (xs (6 * j + 3)) (xs (6 * j + 4)) (xs (6 * j + 5)) hokM
  generalize F_X5_right zm vm fm (xs (6 * j + 1)) (xs (6 * j + 2)) (xs (6 * j + 3)) (xs (6 * j + 4)) (xs (6 * j + 5)) = FM at hpu hM2
  have hPc := hP.sub (ws' := (wM am cI cZ th zm vm fm)) [22, 23, 24, 25, 26, 27, 28, 29, 30, 31, 32, 33, 34, 35, 36, 37, 38, 39] rfl
  have hDc := hD.sub (ws' := (wM am cI cZ th zm vm fm)) [22, 23, 24, 25, 26, 27, 28, 29, 30, 31, 32, 33, 34, 35, 36, 37, 38, 39] (by decide) rfl
  have hFc := va_free (wc := (wM am cI cZ th zm vm fm)) hD hS hA [22, 23, 24, 25, 26, 27, 28, 29, 30, 31, 32, 33, 34, 35, 36, 37, 38, 39] rfl
  refine va_calli (va_runV (As := [.int (xs (6 * j + 1)), .int (xs (6 * j + 2)), .int (xs (6 * j + 3)), .int (xs (6 * j + 4)), .int (xs (6 * j + 5))]) (rest := []) ⟨hx, hb, hml, hown, hts⟩ hM2 (cwV 5 hts gL_law_X5_right rfl rfl rfl (by decide +kernel) ⟨Nat.le_of_ble_eq_true rfl, Nat.le_of_ble_eq_true rfl⟩) (preMw (ci := 5) (q0 := 0) hPc hKc hN hDc rfl rfl rfl) rfl rfl hl.1 rfl (lv_room (Nat.le_of_ble_eq_true rfl)) dL_law_232 ⟨by show 41 + j + 1 + 0 ≤ 1080; omega, by show 1610 + 6 * j + 6 + 0 ≤ 9892; omega⟩) hS (fun q _ h => hFc q h) hFc (fun r6 u9 t9 H1 locs ht hvm hw6 hB hz1 hk1 hS => ?_)
  have hr6 : r6 = FM.1 := hw6
  have hP1 : va_P (dC, dI) vwCl _ t9.heap := hB
  rw [ht] at hP1
  obtain ⟨hP, hD⟩ := va_join (wr := wX ad cI cZ FX.2.2.1 FX.2.2.2.1 FX.2.2.2.2 ++ [(o, .inl (cJ, 1, .inr (.inl g5)))]) (w1 := (wM am cI cZ FM.2.1 FM.2.2.1 FM.2.2.2.1 FM.2.2.2.2)) hP hD [22, 23, 24, 25, 26, 27, 28, 29, 30, 31, 32, 33, 34, 35, 36, 37, 38, 39] [0, 1, 2, 3, 4, 5, 6, 7, 8, 9, 10, 11, 12, 13, 14, 15, 16, 17, 18, 19, 20, 21, 40] rfl rfl (by decide) (by decide) hk1 hFc hP1 (va_D.fst (ws := (wM am cI cZ th zm vm fm)) rfl (hDc.self (sz := H.size)))
  generalize H1 = H at hP hS ⊢
  have hP : va_P (dC, dI) vwCl (wL ad am cI cZ cJ o FX.2.2.1 FX.2.2.2.1 FX.2.2.2.2 FM.2.1 FM.2.2.1 FM.2.2.2.1 FM.2.2.2.2 g5) H := hP.sub [0, 1, 2, 3, 4, 5, 6, 7, 8, 9, 10, 11, 12, 13, 14, 15, 16, 17, 18, 19, 20, 21, 23, 24, 25, 26, 27, 28, 29, 30, 31, 32, 33, 34, 35, 36, 37, 38, 39, 40, 22] rfl
  have hD : va_D (fun q : Nat => s.heap.size ≤ q) (wL ad am cI cZ cJ o FX.2.2.1 FX.2.2.2.1 FX.2.2.2.2 FM.2.1 FM.2.2.1 FM.2.2.2.1 FM.2.2.2.2 g5) := hD.sub [0, 1, 2, 3, 4, 5, 6, 7, 8, 9, 10, 11, 12, 13, 14, 15, 16, 17, 18, 19, 20, 21, 23, 24, 25, 26, 27, 28, 29, 30, 31, 32, 33, 34, 35, 36, 37, 38, 39, 40, 22] (by decide) rfl
  have hR2 := hpu.2.2
  refine lv_istore (lv' := [(6, .int r6), (5, .int r5), (0, .ref b), (1, .ref (ad 0)), (2, .ref (am 0)), (3, .ref o), (4, .int (nI (6 * j)))]) hx hb dL_law_235 hl (by decide) rfl (fun ls hl => ?_)
  refine lv_aload_n hx hb dL_law_237 rfl (lv_at hl 4 rfl) ?_
  have hPc := hP.sub (ws' := (wM am cI cZ FM.2.1 FM.2.2.1 FM.2.2.2.1 FM.2.2.2.2)) [22, 23, 24, 25, 26, 27, 28, 29, 30, 31, 32, 33, 34, 35, 36, 37, 38, 39] rfl
  refine vp_callSi (W.runV (As := []) (rest := []) ⟨hx, hb, hml, hown, hts⟩ (c_X5_thrown l dC dI am cI cZ FM.2.1 FM.2.2.1 FM.2.2.2.1 FM.2.2.2.2 hR2.2.1) (cwV 0 hts gL_law_X5_thrown rfl rfl rfl (by decide +kernel) ⟨Nat.le_of_ble_eq_true rfl, Nat.le_of_ble_eq_true rfl⟩) (preM (ci := 5) (q0 := 0) hPc hKc hN rfl rfl rfl) rfl rfl hl.1 rfl (lv_room (Nat.le_of_ble_eq_true rfl)) dL_law_238 ⟨by show 41 + j + 1 + 0 ≤ 1080; omega, by show 1610 + 6 * j + 6 + 0 ≤ 9892; omega⟩) (fun r7 h9 => ?_)
  have hr7 : r7 = FM.2.1 := h9
  refine lv_iload hx hb dL_law_241 (lv_at hl 1 rfl) ?_
  refine lv_icmp_eq (tgt := 248) hx hb dL_law_243 (by decide) (fun _ => ?_) (fun h9 => absurd (by rw [hr7, hw.1]; exact hpu.1) h9)
  refine lv_iload hx hb dL_law_248 (lv_at hl 1 rfl) ?_
  refine lv_if_ne (tgt := 265) hx hb dL_law_250 (by decide) (fun c5 => ?_) (fun c5 => ?_)
  · refine lv_goto (tgt := 1108) hx hb dL_law_265 (by decide) ?_
    refine W.widen (k := 41 + j + 1) (n := 1610 + 6 * j + 6) (by omega) (by omega) ?_
    exact hk FX.2.2.1 FX.2.2.2.1 FX.2.2.2.2 FM.2.1 FM.2.2.1 FM.2.2.2.1 FM.2.2.2.2 g5 H locs ls hR2 hP hD hS (lv_sub hl [2, 3, 4, 5, 6] rfl)
  · refine lv_aload_n hx hb dL_law_253 rfl (lv_at hl 5 rfl) ?_
    refine lv_iconst (v := 0) hx hb dL_law_254 (by decide) ?_
    have h0 : FX.1 = 0 := hz_right hkc (hw.1.symm.trans c5)
    refine va_lald hx hb hK hP 40 2 rfl rfl (vp_in_nI (n := 0) (by decide) (by decide)) dL_law_255 ?_
    refine lv_iload hx hb dL_law_256 (lv_at hl 0 rfl) ?_
    refine lv_i2l hx hb dL_law_258 rfl ?_
    refine W.lcmp hx hb dL_law_259 ?_
    refine lv_if_eq (tgt := 265) hx hb dL_law_260 (by decide) (fun _ => ?_) (fun h9 => absurd (lc_eq (by rw [hr6, ← hpu.2.1 h0]; exact hw.2 h0)) h9)
    refine lv_goto (tgt := 1108) hx hb dL_law_265 (by decide) ?_
    refine W.widen (k := 41 + j + 1) (n := 1610 + 6 * j + 6) (by omega) (by omega) ?_
    exact hk FX.2.2.1 FX.2.2.2.1 FX.2.2.2.2 FM.2.1 FM.2.2.1 FM.2.2.2.1 FM.2.2.2.2 g5 H locs ls hR2 hP hD hS (lv_sub hl [2, 3, 4, 5, 6] rfl)
set_option maxHeartbeats 4000000 in
set_option maxRecDepth 100000 in
theorem law_forbid {p : Program} {l : Launch} {e : Env} {s : State} {m : MethodId} {below : List Frame} {meth : Method} {c : Code} {dC : Nat → ClassId} {dI : Nat → Nat → Nat} {ad am : Nat → Nat} {cI cZ cJ : ClassId} {o b L : Nat} {xs : Nat → Int32} (hL : L ≤ 3072) (C0 : lw_At p s m meth c b L xs) (hlt : l.stackTraces = false) (hK : va_K (dC, dI) vwCl (cL3 cI cZ cJ) s) (hN : nW s) (hT : tW (fun q : Nat => s.heap.size ≤ q) s) (hC : cW s) (j : Nat) (hj : 6 * j + 6 ≤ L) :
    ∀ (zx : Nat → Nat) (vx : Nat → Int32) (fx : Nat → Nat → Int32) (th : Int32) (zm : Nat → Nat) (vm : Nat → Int32) (fm : Nat → Nat → Int32) (g : Nat → Int64) (H : Heap) (locs : List Loc) (ls : Array Slot), REL zx vx fx zm vm fm → va_P (dC, dI) vwCl (wL ad am cI cZ cJ o zx vx fx th zm vm fm g) H → va_D (fun q : Nat => s.heap.size ≤ q) (wL ad am cI cZ cJ o zx vx fx th zm vm fm g) → va_S (fun q : Nat => s.heap.size ≤ q) s.heap H locs → lv_has ls 7 [(0, .ref b), (1, .ref (ad 0)), (2, .ref (am 0)), (3, .ref o), (4, .int (nI (6 * j)))] → (∀ (zx : Nat → Nat) (vx : Nat → Int32) (fx : Nat → Nat → Int32) (th : Int32) (zm : Nat → Nat) (vm : Nat → Int32) (fm : Nat → Nat → Int32) (g : Nat → Int64) (H : Heap) (locs : List Loc) (ls : Array Slot), REL zx vx fx zm vm fm → va_P (dC, dI) vwCl (wL ad am cI cZ cJ o zx vx fx th zm vm fm g) H → va_D (fun q : Nat => s.heap.size ≤ q) (wL ad am cI cZ cJ o zx vx fx th zm vm fm g) → va_S (fun q : Nat => s.heap.size ≤ q) s.heap H locs → lv_has ls 7 [(0, .ref b), (1, .ref (ad 0)), (2, .ref (am 0)), (3, .ref o), (4, .int (nI (6 * j)))] → W p l e room_1 s m #[Value.ref b] below meth c H locs (41 + j + 1) (1610 + 6 * j + 6) (lw_Z below #[Value.ref b] s) (F0 m 1108 ls [])) → W p l e room_1 s m #[Value.ref b] below meth c H locs (41 + j) (1610 + 6 * j) (lw_Z below #[Value.ref b] s) (F0 m 268 ls []) := by
  obtain ⟨hx, hb, hr, hml, hown, hts0, hX, hbl, hlocks, hgv⟩ := C0
  have hts := fun w h => hts0 w (wsL_law_in w h)
  have hA : ∀ q : Nat, s.heap.size ≤ q → (fun q : Nat => s.heap.size ≤ q) q := fun _ h => h
  have hbA : ¬ (fun q : Nat => s.heap.size ≤ q) b := Nat.not_le.mpr hbl
  have hKc := hK.sub (tys' := [(cI, .int), (cZ, .boolean)]) [0, 1] rfl
  intro zx vx fx th zm vm fm g H locs ls hR hP hD hS hl hk
  have hokX := hR.1
  have hokM := hR.2.1
  refine lv_aload_n hx hb dL_law_268 rfl (lv_at hl 1 rfl) ?_
  refine lv_aload_n hx hb dL_law_269 rfl (lv_at hl 0 rfl) ?_
  refine lv_iload hx hb dL_law_270 (lv_at hl 4 rfl) ?_
  refine lv_iconst (v := 1) hx hb dL_law_272 (by decide) ?_
  refine lv_iadd hx hb dL_law_273 ?_
  refine xe_top (nI_add (6 * j) 1) ?_
  refine xs_ld hx hb hX hbl hbA hS (k := 6 * j + 1) (by omega) (by omega) dL_law_274 ?_
  refine lv_aload_n hx hb dL_law_275 rfl (lv_at hl 0 rfl) ?_
  refine lv_iload hx hb dL_law_276 (lv_at hl 4 rfl) ?_
  refine lv_iconst (v := 2) hx hb dL_law_278 (by decide) ?_
  refine lv_iadd hx hb dL_law_279 ?_
  refine xe_top (nI_add (6 * j) 2) ?_
  refine xs_ld hx hb hX hbl hbA hS (k := 6 * j + 2) (by omega) (by omega) dL_law_280 ?_
  refine lv_aload_n hx hb dL_law_281 rfl (lv_at hl 0 rfl) ?_
  refine lv_iload hx hb dL_law_282 (lv_at hl 4 rfl) ?_
  refine lv_iconst (v := 3) hx hb dL_law_284 (by decide) ?_
  refine lv_iadd hx hb dL_law_285 ?_
  refine xe_top (nI_add (6 * j) 3) ?_
  refine xs_ld hx hb hX hbl hbA hS (k := 6 * j + 3) (by omega) (by omega) dL_law_286 ?_
  refine lv_if_eq (tgt := 294) hx hb dL_law_287 (by decide) (fun cz => ?_) (fun cz => ?_)
  · refine lv_iconst (v := 0) hx hb dL_law_294 (by decide) ?_
    have hpu := pu_forbid hR (xs (6 * j + 1)) (xs (6 * j + 2)) 0 zB_0
    have hPc := hP.sub (ws' := (wX ad cI cZ zx vx fx)) [0, 1, 2, 3, 4, 5, 6, 7, 8, 9, 10, 11, 12, 13, 14, 15, 16, 17, 18, 19, 20, 21] rfl
    have hM1 := c_X4_forbid l dC dI ad cI cZ zx vx fx H.size (xs (6 * j + 1)) (xs (6 * j + 2)) 0 hokX
    generalize F_X4_forbid zx vx fx (xs (6 * j + 1)) (xs (6 * j + 2)) 0 = FX at hpu hM1
    have hDc := hD.sub (ws' := (wX ad cI cZ zx vx fx)) [0, 1, 2, 3, 4, 5, 6, 7, 8, 9, 10, 11, 12, 13, 14, 15, 16, 17, 18, 19, 20, 21] (by decide) rfl
    have hFc := va_free (wc := (wX ad cI cZ zx vx fx)) hD hS hA [0, 1, 2, 3, 4, 5, 6, 7, 8, 9, 10, 11, 12, 13, 14, 15, 16, 17, 18, 19, 20, 21] rfl
    refine va_calli (va_runV (As := [.int (xs (6 * j + 1)), .int (xs (6 * j + 2)), .int 0]) (rest := []) ⟨hx, hb, hml, hown, hts⟩ hM1 (cwV 3 hts gL_law_X4_forbid rfl rfl rfl (by decide +kernel) ⟨Nat.le_of_ble_eq_true rfl, Nat.le_of_ble_eq_true rfl⟩) (preXw (ci := 4) (q0 := 0) hPc hKc hN hDc rfl rfl rfl) rfl rfl hl.1 rfl (lv_room (Nat.le_of_ble_eq_true rfl)) dL_law_295 ⟨by show 41 + j + 0 ≤ 1080; omega, by show 1610 + 6 * j + 0 ≤ 9892; omega⟩) hS (fun q _ h => hFc q h) hFc (fun r5 u9 t9 H1 locs ht hvm hw hB hz1 hk1 hS => ?_)
    have hr5 : r5 = FX.1 := hw
    have hP1 : va_P (dC, dI) vwCl _ t9.heap := hB
    rw [ht] at hP1
    obtain ⟨hP, hD⟩ := va_join (wr := wM am cI cZ th zm vm fm ++ [(o, .inl (cJ, 1, .inr (.inl g)))]) (w1 := (wX ad cI cZ FX.2.1 FX.2.2.1 FX.2.2.2)) hP hD [0, 1, 2, 3, 4, 5, 6, 7, 8, 9, 10, 11, 12, 13, 14, 15, 16, 17, 18, 19, 20, 21] [22, 23, 24, 25, 26, 27, 28, 29, 30, 31, 32, 33, 34, 35, 36, 37, 38, 39, 40] rfl rfl (by decide) (by decide) hk1 hFc hP1 (va_D.fst (ws := (wX ad cI cZ zx vx fx)) rfl (hDc.self (sz := H.size)))
    generalize H1 = H at hP hS ⊢
    have hP : va_P (dC, dI) vwCl (wL ad am cI cZ cJ o FX.2.1 FX.2.2.1 FX.2.2.2 th zm vm fm g) H := hP.sub [19, 20, 21, 22, 23, 24, 25, 26, 27, 28, 29, 30, 31, 32, 33, 34, 35, 36, 37, 38, 39, 40, 0, 1, 2, 3, 4, 5, 6, 7, 8, 9, 10, 11, 12, 13, 14, 15, 16, 17, 18] rfl
    have hD : va_D (fun q : Nat => s.heap.size ≤ q) (wL ad am cI cZ cJ o FX.2.1 FX.2.2.1 FX.2.2.2 th zm vm fm g) := hD.sub [19, 20, 21, 22, 23, 24, 25, 26, 27, 28, 29, 30, 31, 32, 33, 34, 35, 36, 37, 38, 39, 40, 0, 1, 2, 3, 4, 5, 6, 7, 8, 9, 10, 11, 12, 13, 14, 15, 16, 17, 18] (by decide) rfl
    refine lv_aload_n hx hb dL_law_298 rfl (lv_at hl 2 rfl) ?_
    refine lv_aload_n hx hb dL_law_299 rfl (lv_at hl 0 rfl) ?_
    refine lv_iload hx hb dL_law_300 (lv_at hl 4 rfl) ?_
    refine lv_iconst (v := 1) hx hb dL_law_302 (by decide) ?_
    refine lv_iadd hx hb dL_law_303 ?_
    refine xe_top (nI_add (6 * j) 1) ?_
    refine xs_ld hx hb hX hbl hbA hS (k := 6 * j + 1) (by omega) (by omega) dL_law_304 ?_
    refine lv_aload_n hx hb dL_law_305 rfl (lv_at hl 0 rfl) ?_
    refine lv_iload hx hb dL_law_306 (lv_at hl 4 rfl) ?_
    refine lv_iconst (v := 2) hx hb dL_law_308 (by decide) ?_
    refine lv_iadd hx hb dL_law_309 ?_
    refine xe_top (nI_add (6 * j) 2) ?_
    refine xs_ld hx hb hX hbl hbA hS (k := 6 * j + 2) (by omega) (by omega) dL_law_310 ?_
    refine lv_aload_n hx hb dL_law_311 rfl (lv_at hl 0 rfl) ?_
    refine lv_iload hx hb dL_law_312 (lv_at hl 4 rfl) ?_
    refine lv_iconst (v := 3) hx hb dL_law_314 (by decide) ?_
    refine lv_iadd hx hb dL_law_315 ?_
    refine xe_top (nI_add (6 * j) 3) ?_
    refine xs_ld hx hb hX hbl hbA hS (k := 6 * j + 3) (by omega) (by omega) dL_law_316 ?_
    refine lv_if_eq (tgt := 324) hx hb dL_law_317 (by decide) (fun _ => ?_) (fun h9 => absurd cz h9)
    refine lv_iconst (v := 0) hx hb dL_law_324 (by decide) ?_
    have hM2 := c_X5_forbid l dC dI am cI cZ th zm vm fm H.size (xs (6 * j + 1)) (xs (6 * j + 2)) 0 hokM
    generalize F_X5_forbid zm vm fm (xs (6 * j + 1)) (xs (6 * j + 2)) 0 = FM at hpu hM2
    have hPc := hP.sub (ws' := (wM am cI cZ th zm vm fm)) [22, 23, 24, 25, 26, 27, 28, 29, 30, 31, 32, 33, 34, 35, 36, 37, 38, 39] rfl
    have hDc := hD.sub (ws' := (wM am cI cZ th zm vm fm)) [22, 23, 24, 25, 26, 27, 28, 29, 30, 31, 32, 33, 34, 35, 36, 37, 38, 39] (by decide) rfl
    have hFc := va_free (wc := (wM am cI cZ th zm vm fm)) hD hS hA [22, 23, 24, 25, 26, 27, 28, 29, 30, 31, 32, 33, 34, 35, 36, 37, 38, 39] rfl
    refine va_calli (va_runV (As := [.int (xs (6 * j + 1)), .int (xs (6 * j + 2)), .int 0]) (rest := [.int r5]) ⟨hx, hb, hml, hown, hts⟩ hM2 (cwV 3 hts gL_law_X5_forbid rfl rfl rfl (by decide +kernel) ⟨Nat.le_of_ble_eq_true rfl, Nat.le_of_ble_eq_true rfl⟩) (preMw (ci := 5) (q0 := 0) hPc hKc hN hDc rfl rfl rfl) rfl rfl hl.1 rfl (lv_room (Nat.le_of_ble_eq_true rfl)) dL_law_325 ⟨by show 41 + j + 0 ≤ 1080; omega, by show 1610 + 6 * j + 0 ≤ 9892; omega⟩) hS (fun q _ h => hFc q h) hFc (fun r6 u9 t9 H1 locs ht hvm hw6 hB hz1 hk1 hS => ?_)
    have hr6 : r6 = FM.1 := hw6
    have hP1 : va_P (dC, dI) vwCl _ t9.heap := hB
    rw [ht] at hP1
    obtain ⟨hP, hD⟩ := va_join (wr := wX ad cI cZ FX.2.1 FX.2.2.1 FX.2.2.2 ++ [(o, .inl (cJ, 1, .inr (.inl g)))]) (w1 := (wM am cI cZ FM.2.1 FM.2.2.1 FM.2.2.2.1 FM.2.2.2.2)) hP hD [22, 23, 24, 25, 26, 27, 28, 29, 30, 31, 32, 33, 34, 35, 36, 37, 38, 39] [0, 1, 2, 3, 4, 5, 6, 7, 8, 9, 10, 11, 12, 13, 14, 15, 16, 17, 18, 19, 20, 21, 40] rfl rfl (by decide) (by decide) hk1 hFc hP1 (va_D.fst (ws := (wM am cI cZ th zm vm fm)) rfl (hDc.self (sz := H.size)))
    generalize H1 = H at hP hS ⊢
    have hP : va_P (dC, dI) vwCl (wL ad am cI cZ cJ o FX.2.1 FX.2.2.1 FX.2.2.2 FM.2.1 FM.2.2.1 FM.2.2.2.1 FM.2.2.2.2 g) H := hP.sub [0, 1, 2, 3, 4, 5, 6, 7, 8, 9, 10, 11, 12, 13, 14, 15, 16, 17, 18, 19, 20, 21, 23, 24, 25, 26, 27, 28, 29, 30, 31, 32, 33, 34, 35, 36, 37, 38, 39, 40, 22] rfl
    have hD : va_D (fun q : Nat => s.heap.size ≤ q) (wL ad am cI cZ cJ o FX.2.1 FX.2.2.1 FX.2.2.2 FM.2.1 FM.2.2.1 FM.2.2.2.1 FM.2.2.2.2 g) := hD.sub [0, 1, 2, 3, 4, 5, 6, 7, 8, 9, 10, 11, 12, 13, 14, 15, 16, 17, 18, 19, 20, 21, 23, 24, 25, 26, 27, 28, 29, 30, 31, 32, 33, 34, 35, 36, 37, 38, 39, 40, 22] (by decide) rfl
    have hR2 := hpu.2
    refine lv_icmp_eq (tgt := 1108) hx hb dL_law_328 (by decide) (fun _ => ?_) (fun h9 => absurd (by rw [hr5, hr6]; exact hpu.1) h9)
    refine W.widen (k := 41 + j + 1) (n := 1610 + 6 * j + 6) (by omega) (by omega) ?_
    exact hk FX.2.1 FX.2.2.1 FX.2.2.2 FM.2.1 FM.2.2.1 FM.2.2.2.1 FM.2.2.2.2 g H locs ls hR2 hP hD hS (lv_sub hl [0, 1, 2, 3, 4] rfl)
  · refine lv_iconst (v := 1) hx hb dL_law_290 (by decide) ?_
    refine lv_goto (tgt := 295) hx hb dL_law_291 (by decide) ?_
    have hpu := pu_forbid hR (xs (6 * j + 1)) (xs (6 * j + 2)) 1 zB_1
    have hPc := hP.sub (ws' := (wX ad cI cZ zx vx fx)) [0, 1, 2, 3, 4, 5, 6, 7, 8, 9, 10, 11, 12, 13, 14, 15, 16, 17, 18, 19, 20, 21] rfl
    have hM1 := c_X4_forbid l dC dI ad cI cZ zx vx fx H.size (xs (6 * j + 1)) (xs (6 * j + 2)) 1 hokX
    generalize F_X4_forbid zx vx fx (xs (6 * j + 1)) (xs (6 * j + 2)) 1 = FX at hpu hM1
    have hDc := hD.sub (ws' := (wX ad cI cZ zx vx fx)) [0, 1, 2, 3, 4, 5, 6, 7, 8, 9, 10, 11, 12, 13, 14, 15, 16, 17, 18, 19, 20, 21] (by decide) rfl
    have hFc := va_free (wc := (wX ad cI cZ zx vx fx)) hD hS hA [0, 1, 2, 3, 4, 5, 6, 7, 8, 9, 10, 11, 12, 13, 14, 15, 16, 17, 18, 19, 20, 21] rfl
    refine va_calli (va_runV (As := [.int (xs (6 * j + 1)), .int (xs (6 * j + 2)), .int 1]) (rest := []) ⟨hx, hb, hml, hown, hts⟩ hM1 (cwV 3 hts gL_law_X4_forbid rfl rfl rfl (by decide +kernel) ⟨Nat.le_of_ble_eq_true rfl, Nat.le_of_ble_eq_true rfl⟩) (preXw (ci := 4) (q0 := 0) hPc hKc hN hDc rfl rfl rfl) rfl rfl hl.1 rfl (lv_room (Nat.le_of_ble_eq_true rfl)) dL_law_295 ⟨by show 41 + j + 0 ≤ 1080; omega, by show 1610 + 6 * j + 0 ≤ 9892; omega⟩) hS (fun q _ h => hFc q h) hFc (fun r5 u9 t9 H1 locs ht hvm hw hB hz1 hk1 hS => ?_)
    have hr5 : r5 = FX.1 := hw
    have hP1 : va_P (dC, dI) vwCl _ t9.heap := hB
    rw [ht] at hP1
    obtain ⟨hP, hD⟩ := va_join (wr := wM am cI cZ th zm vm fm ++ [(o, .inl (cJ, 1, .inr (.inl g)))]) (w1 := (wX ad cI cZ FX.2.1 FX.2.2.1 FX.2.2.2)) hP hD [0, 1, 2, 3, 4, 5, 6, 7, 8, 9, 10, 11, 12, 13, 14, 15, 16, 17, 18, 19, 20, 21] [22, 23, 24, 25, 26, 27, 28, 29, 30, 31, 32, 33, 34, 35, 36, 37, 38, 39, 40] rfl rfl (by decide) (by decide) hk1 hFc hP1 (va_D.fst (ws := (wX ad cI cZ zx vx fx)) rfl (hDc.self (sz := H.size)))
    generalize H1 = H at hP hS ⊢
    have hP : va_P (dC, dI) vwCl (wL ad am cI cZ cJ o FX.2.1 FX.2.2.1 FX.2.2.2 th zm vm fm g) H := hP.sub [19, 20, 21, 22, 23, 24, 25, 26, 27, 28, 29, 30, 31, 32, 33, 34, 35, 36, 37, 38, 39, 40, 0, 1, 2, 3, 4, 5, 6, 7, 8, 9, 10, 11, 12, 13, 14, 15, 16, 17, 18] rfl
    have hD : va_D (fun q : Nat => s.heap.size ≤ q) (wL ad am cI cZ cJ o FX.2.1 FX.2.2.1 FX.2.2.2 th zm vm fm g) := hD.sub [19, 20, 21, 22, 23, 24, 25, 26, 27, 28, 29, 30, 31, 32, 33, 34, 35, 36, 37, 38, 39, 40, 0, 1, 2, 3, 4, 5, 6, 7, 8, 9, 10, 11, 12, 13, 14, 15, 16, 17, 18] (by decide) rfl
    refine lv_aload_n hx hb dL_law_298 rfl (lv_at hl 2 rfl) ?_
    refine lv_aload_n hx hb dL_law_299 rfl (lv_at hl 0 rfl) ?_
    refine lv_iload hx hb dL_law_300 (lv_at hl 4 rfl) ?_
    refine lv_iconst (v := 1) hx hb dL_law_302 (by decide) ?_
    refine lv_iadd hx hb dL_law_303 ?_
    refine xe_top (nI_add (6 * j) 1) ?_
    refine xs_ld hx hb hX hbl hbA hS (k := 6 * j + 1) (by omega) (by omega) dL_law_304 ?_
    refine lv_aload_n hx hb dL_law_305 rfl (lv_at hl 0 rfl) ?_
    refine lv_iload hx hb dL_law_306 (lv_at hl 4 rfl) ?_
    refine lv_iconst (v := 2) hx hb dL_law_308 (by decide) ?_
    refine lv_iadd hx hb dL_law_309 ?_
    refine xe_top (nI_add (6 * j) 2) ?_
    refine xs_ld hx hb hX hbl hbA hS (k := 6 * j + 2) (by omega) (by omega) dL_law_310 ?_
    refine lv_aload_n hx hb dL_law_311 rfl (lv_at hl 0 rfl) ?_
    refine lv_iload hx hb dL_law_312 (lv_at hl 4 rfl) ?_
    refine lv_iconst (v := 3) hx hb dL_law_314 (by decide) ?_
    refine lv_iadd hx hb dL_law_315 ?_
    refine xe_top (nI_add (6 * j) 3) ?_
    refine xs_ld hx hb hX hbl hbA hS (k := 6 * j + 3) (by omega) (by omega) dL_law_316 ?_
    refine lv_if_eq (tgt := 324) hx hb dL_law_317 (by decide) (fun h9 => absurd h9 cz) (fun _ => ?_)
    refine lv_iconst (v := 1) hx hb dL_law_320 (by decide) ?_
    refine lv_goto (tgt := 325) hx hb dL_law_321 (by decide) ?_
    have hM2 := c_X5_forbid l dC dI am cI cZ th zm vm fm H.size (xs (6 * j + 1)) (xs (6 * j + 2)) 1 hokM
    generalize F_X5_forbid zm vm fm (xs (6 * j + 1)) (xs (6 * j + 2)) 1 = FM at hpu hM2
    have hPc := hP.sub (ws' := (wM am cI cZ th zm vm fm)) [22, 23, 24, 25, 26, 27, 28, 29, 30, 31, 32, 33, 34, 35, 36, 37, 38, 39] rfl
    have hDc := hD.sub (ws' := (wM am cI cZ th zm vm fm)) [22, 23, 24, 25, 26, 27, 28, 29, 30, 31, 32, 33, 34, 35, 36, 37, 38, 39] (by decide) rfl
    have hFc := va_free (wc := (wM am cI cZ th zm vm fm)) hD hS hA [22, 23, 24, 25, 26, 27, 28, 29, 30, 31, 32, 33, 34, 35, 36, 37, 38, 39] rfl
    refine va_calli (va_runV (As := [.int (xs (6 * j + 1)), .int (xs (6 * j + 2)), .int 1]) (rest := [.int r5]) ⟨hx, hb, hml, hown, hts⟩ hM2 (cwV 3 hts gL_law_X5_forbid rfl rfl rfl (by decide +kernel) ⟨Nat.le_of_ble_eq_true rfl, Nat.le_of_ble_eq_true rfl⟩) (preMw (ci := 5) (q0 := 0) hPc hKc hN hDc rfl rfl rfl) rfl rfl hl.1 rfl (lv_room (Nat.le_of_ble_eq_true rfl)) dL_law_325 ⟨by show 41 + j + 0 ≤ 1080; omega, by show 1610 + 6 * j + 0 ≤ 9892; omega⟩) hS (fun q _ h => hFc q h) hFc (fun r6 u9 t9 H1 locs ht hvm hw6 hB hz1 hk1 hS => ?_)
    have hr6 : r6 = FM.1 := hw6
    have hP1 : va_P (dC, dI) vwCl _ t9.heap := hB
    rw [ht] at hP1
    obtain ⟨hP, hD⟩ := va_join (wr := wX ad cI cZ FX.2.1 FX.2.2.1 FX.2.2.2 ++ [(o, .inl (cJ, 1, .inr (.inl g)))]) (w1 := (wM am cI cZ FM.2.1 FM.2.2.1 FM.2.2.2.1 FM.2.2.2.2)) hP hD [22, 23, 24, 25, 26, 27, 28, 29, 30, 31, 32, 33, 34, 35, 36, 37, 38, 39] [0, 1, 2, 3, 4, 5, 6, 7, 8, 9, 10, 11, 12, 13, 14, 15, 16, 17, 18, 19, 20, 21, 40] rfl rfl (by decide) (by decide) hk1 hFc hP1 (va_D.fst (ws := (wM am cI cZ th zm vm fm)) rfl (hDc.self (sz := H.size)))
    generalize H1 = H at hP hS ⊢
    have hP : va_P (dC, dI) vwCl (wL ad am cI cZ cJ o FX.2.1 FX.2.2.1 FX.2.2.2 FM.2.1 FM.2.2.1 FM.2.2.2.1 FM.2.2.2.2 g) H := hP.sub [0, 1, 2, 3, 4, 5, 6, 7, 8, 9, 10, 11, 12, 13, 14, 15, 16, 17, 18, 19, 20, 21, 23, 24, 25, 26, 27, 28, 29, 30, 31, 32, 33, 34, 35, 36, 37, 38, 39, 40, 22] rfl
    have hD : va_D (fun q : Nat => s.heap.size ≤ q) (wL ad am cI cZ cJ o FX.2.1 FX.2.2.1 FX.2.2.2 FM.2.1 FM.2.2.1 FM.2.2.2.1 FM.2.2.2.2 g) := hD.sub [0, 1, 2, 3, 4, 5, 6, 7, 8, 9, 10, 11, 12, 13, 14, 15, 16, 17, 18, 19, 20, 21, 23, 24, 25, 26, 27, 28, 29, 30, 31, 32, 33, 34, 35, 36, 37, 38, 39, 40, 22] (by decide) rfl
    have hR2 := hpu.2
    refine lv_icmp_eq (tgt := 1108) hx hb dL_law_328 (by decide) (fun _ => ?_) (fun h9 => absurd (by rw [hr5, hr6]; exact hpu.1) h9)
    refine W.widen (k := 41 + j + 1) (n := 1610 + 6 * j + 6) (by omega) (by omega) ?_
    exact hk FX.2.1 FX.2.2.1 FX.2.2.2 FM.2.1 FM.2.2.1 FM.2.2.2.1 FM.2.2.2.2 g H locs ls hR2 hP hD hS (lv_sub hl [0, 1, 2, 3, 4] rfl)
