set_option maxHeartbeats 4000000 in
set_option maxRecDepth 100000 in
theorem law_suspend {p : Program} {l : Launch} {e : Env} {s : State} {m : MethodId} {below : List Frame} {meth : Method} {c : Code} {dC : Nat → ClassId} {dI : Nat → Nat → Nat} {ad am : Nat → Nat} {cI cZ cJ : ClassId} {o b L : Nat} {xs : Nat → Int32} (hL : L ≤ 3072) (C0 : lw_At p s m meth c b L xs) (hlt : l.stackTraces = false) (hK : va_K (dC, dI) vwCl (cL3 cI cZ cJ) s) (hN : nW s) (hT : tW (fun q : Nat => s.heap.size ≤ q) s) (hC : cW s) (j : Nat) (hj : 6 * j + 6 ≤ L) :
    ∀ (zx : Nat → Nat) (vx : Nat → Int32) (fx : Nat → Nat → Int32) (th : Int32) (zm : Nat → Nat) (vm : Nat → Int32) (fm : Nat → Nat → Int32) (g : Nat → Int64) (H : Heap) (locs : List Loc) (ls : Array Slot), REL zx vx fx zm vm fm → va_P (dC, dI) vwCl (wL ad am cI cZ cJ o zx vx fx th zm vm fm g) H → va_D (fun q : Nat => s.heap.size ≤ q) (wL ad am cI cZ cJ o zx vx fx th zm vm fm g) → va_S (fun q : Nat => s.heap.size ≤ q) s.heap H locs → lv_has ls 7 [(0, .ref b), (1, .ref (ad 0)), (2, .ref (am 0)), (3, .ref o), (4, .int (nI (6 * j)))] → (∀ (zx : Nat → Nat) (vx : Nat → Int32) (fx : Nat → Nat → Int32) (th : Int32) (zm : Nat → Nat) (vm : Nat → Int32) (fm : Nat → Nat → Int32) (g : Nat → Int64) (H : Heap) (locs : List Loc) (ls : Array Slot), REL zx vx fx zm vm fm → va_P (dC, dI) vwCl (wL ad am cI cZ cJ o zx vx fx th zm vm fm g) H → va_D (fun q : Nat => s.heap.size ≤ q) (wL ad am cI cZ cJ o zx vx fx th zm vm fm g) → va_S (fun q : Nat => s.heap.size ≤ q) s.heap H locs → lv_has ls 7 [(0, .ref b), (1, .ref (ad 0)), (2, .ref (am 0)), (3, .ref o), (4, .int (nI (6 * j)))] → W p l e room_1 s m #[Value.ref b] below meth c H locs (41 + j + 1) (1610 + 6 * j + 6) (lw_Z below #[Value.ref b] s) (F0 m 1108 ls [])) → W p l e room_1 s m #[Value.ref b] below meth c H locs (41 + j) (1610 + 6 * j) (lw_Z below #[Value.ref b] s) (F0 m 577 ls []) := by
  obtain ⟨hx, hb, hr, hml, hown, hts0, hX, hbl, hlocks, hgv⟩ := C0
  have hts := fun w h => hts0 w (wsL_law_in w h)
  have hA : ∀ q : Nat, s.heap.size ≤ q → (fun q : Nat => s.heap.size ≤ q) q := fun _ h => h
  have hbA : ¬ (fun q : Nat => s.heap.size ≤ q) b := Nat.not_le.mpr hbl
  have hKc := hK.sub (tys' := [(cI, .int), (cZ, .boolean)]) [0, 1] rfl
  intro zx vx fx th zm vm fm g H locs ls hR hP hD hS hl hk
  have hokX := hR.1
  have hokM := hR.2.1
  refine lv_aload_n hx hb dL_law_577 rfl (lv_at hl 1 rfl) ?_
  refine lv_aload_n hx hb dL_law_578 rfl (lv_at hl 0 rfl) ?_
  refine lv_iload hx hb dL_law_579 (lv_at hl 4 rfl) ?_
  refine lv_iconst (v := 1) hx hb dL_law_581 (by decide) ?_
  refine lv_iadd hx hb dL_law_582 ?_
  refine xe_top (nI_add (6 * j) 1) ?_
  refine xs_ld hx hb hX hbl hbA hS (k := 6 * j + 1) (by omega) (by omega) dL_law_583 ?_
  refine lv_aload_n hx hb dL_law_584 rfl (lv_at hl 0 rfl) ?_
  refine lv_iload hx hb dL_law_585 (lv_at hl 4 rfl) ?_
  refine lv_iconst (v := 2) hx hb dL_law_587 (by decide) ?_
  refine lv_iadd hx hb dL_law_588 ?_
  refine xe_top (nI_add (6 * j) 2) ?_
  refine xs_ld hx hb hX hbl hbA hS (k := 6 * j + 2) (by omega) (by omega) dL_law_589 ?_
  refine lv_aload_n hx hb dL_law_590 rfl (lv_at hl 0 rfl) ?_
  refine lv_iload hx hb dL_law_591 (lv_at hl 4 rfl) ?_
  refine lv_iconst (v := 3) hx hb dL_law_593 (by decide) ?_
  refine lv_iadd hx hb dL_law_594 ?_
  refine xe_top (nI_add (6 * j) 3) ?_
  refine xs_ld hx hb hX hbl hbA hS (k := 6 * j + 3) (by omega) (by omega) dL_law_595 ?_
  refine lv_if_eq (tgt := 603) hx hb dL_law_596 (by decide) (fun cz => ?_) (fun cz => ?_)
  · refine lv_iconst (v := 0) hx hb dL_law_603 (by decide) ?_
    refine lv_aload_n hx hb dL_law_604 rfl (lv_at hl 3 rfl) ?_
    have hpu := pu_suspend hR (xs (6 * j + 1)) (xs (6 * j + 2)) 0 zB_0
    have hkc := kc_suspend zx vx fx (xs (6 * j + 1)) (xs (6 * j + 2)) 0
    have hM1 := c_L_suspend l dC dI ad cI cZ cJ zx vx fx H.size o g (xs (6 * j + 1)) (xs (6 * j + 2)) 0 hokX hlt zB_0
    generalize F_X4_suspend zx vx fx (xs (6 * j + 1)) (xs (6 * j + 2)) 0 = FX at hpu hkc hM1
    have hPc := hP.sub (ws' := (wXo ad cI cZ cJ o zx vx fx g)) [0, 1, 2, 3, 4, 5, 6, 7, 8, 9, 10, 11, 12, 13, 14, 15, 16, 17, 18, 19, 20, 21, 40] rfl
    have hDc := hD.sub (ws' := (wXo ad cI cZ cJ o zx vx fx g)) [0, 1, 2, 3, 4, 5, 6, 7, 8, 9, 10, 11, 12, 13, 14, 15, 16, 17, 18, 19, 20, 21, 40] (by decide) rfl
    have hFc := va_free (wc := (wXo ad cI cZ cJ o zx vx fx g)) hD hS hA [0, 1, 2, 3, 4, 5, 6, 7, 8, 9, 10, 11, 12, 13, 14, 15, 16, 17, 18, 19, 20, 21, 40] rfl
    refine va_calli (vx_runSW (hh := [(0, 12, 15, 19), (0, 12, 19, 13)]) (As := [.ref (ad 0), .int (xs (6 * j + 1)), .int (xs (6 * j + 2)), .int 0, .ref o]) (rest := []) ⟨hx, hb, hml, hown, hts⟩ hM1 (vx_cwSW 5 hts gL_law_L_suspend rfl rfl rfl (by decide +kernel) ⟨Nat.le_of_ble_eq_true rfl, Nat.le_of_ble_eq_true rfl⟩) (preL hPc hK hN hDc hT hC hS hFc) rfl rfl hl.1 rfl (lv_room (Nat.le_of_ble_eq_true rfl)) dL_law_605 ⟨by show 41 + j + 1 ≤ 1080; omega, by show 1610 + 6 * j + 6 ≤ 9892; omega⟩) hS (fun q _ h => hFc q h) hFc (fun r5 g5 t9 H1 locs ht hvm hw hB hz1 hk1 hS => ?_)
    have hP1 : va_P (dC, dI) vwCl _ t9.heap := hB
    rw [ht] at hP1
    obtain ⟨hP, hD⟩ := va_join (wr := wM am cI cZ th zm vm fm) (w1 := (wXo ad cI cZ cJ o FX.2.2.1 FX.2.2.2.1 FX.2.2.2.2 g5)) hP hD [0, 1, 2, 3, 4, 5, 6, 7, 8, 9, 10, 11, 12, 13, 14, 15, 16, 17, 18, 19, 20, 21, 40] [22, 23, 24, 25, 26, 27, 28, 29, 30, 31, 32, 33, 34, 35, 36, 37, 38, 39] rfl rfl (by decide) (by decide) hk1 hFc hP1 (va_D.fst (ws := (wXo ad cI cZ cJ o zx vx fx g)) rfl (hDc.self (sz := H.size)))
    generalize H1 = H at hP hS ⊢
    have hP : va_P (dC, dI) vwCl (wL ad am cI cZ cJ o FX.2.2.1 FX.2.2.2.1 FX.2.2.2.2 th zm vm fm g5) H := hP.sub [18, 19, 20, 21, 22, 23, 24, 25, 26, 27, 28, 29, 30, 31, 32, 33, 34, 35, 36, 37, 38, 39, 0, 1, 2, 3, 4, 5, 6, 7, 8, 9, 10, 11, 12, 13, 14, 15, 16, 17, 40] rfl
    have hD : va_D (fun q : Nat => s.heap.size ≤ q) (wL ad am cI cZ cJ o FX.2.2.1 FX.2.2.2.1 FX.2.2.2.2 th zm vm fm g5) := hD.sub [18, 19, 20, 21, 22, 23, 24, 25, 26, 27, 28, 29, 30, 31, 32, 33, 34, 35, 36, 37, 38, 39, 0, 1, 2, 3, 4, 5, 6, 7, 8, 9, 10, 11, 12, 13, 14, 15, 16, 17, 40] (by decide) rfl
    refine lv_istore (lv' := [(5, .int r5), (0, .ref b), (1, .ref (ad 0)), (2, .ref (am 0)), (3, .ref o), (4, .int (nI (6 * j)))]) hx hb dL_law_608 hl (by decide) rfl (fun ls hl => ?_)
    refine lv_aload_n hx hb dL_law_610 rfl (lv_at hl 3 rfl) ?_
    refine lv_aload_n hx hb dL_law_611 rfl (lv_at hl 1 rfl) ?_
    refine lv_iload hx hb dL_law_612 (lv_at hl 5 rfl) ?_
    refine lv_iconst (v := 1) hx hb dL_law_614 (by decide) ?_
    refine lv_iadd hx hb dL_law_615 ?_
    refine xe_top (nI_add (6 * j) 1) ?_
    refine xs_ld hx hb hX hbl hbA hS (k := 6 * j + 1) (by omega) (by omega) dL_law_616 ?_
    refine lv_aload_n hx hb dL_law_617 rfl (lv_at hl 1 rfl) ?_
    refine lv_iload hx hb dL_law_618 (lv_at hl 5 rfl) ?_
    refine lv_iconst (v := 2) hx hb dL_law_620 (by decide) ?_
    refine lv_iadd hx hb dL_law_621 ?_
    refine xe_top (nI_add (6 * j) 2) ?_
    refine xs_ld hx hb hX hbl hbA hS (k := 6 * j + 2) (by omega) (by omega) dL_law_622 ?_
    refine lv_aload_n hx hb dL_law_623 rfl (lv_at hl 1 rfl) ?_
    refine lv_iload hx hb dL_law_624 (lv_at hl 5 rfl) ?_
    refine lv_iconst (v := 3) hx hb dL_law_626 (by decide) ?_
    refine lv_iadd hx hb dL_law_627 ?_
    refine xe_top (nI_add (6 * j) 3) ?_
    refine xs_ld hx hb hX hbl hbA hS (k := 6 * j + 3) (by omega) (by omega) dL_law_628 ?_
    refine lv_if_eq (tgt := 636) hx hb dL_law_629 (by decide) (fun _ => ?_) (fun h9 => absurd cz h9)
    refine lv_iconst (v := 0) hx hb dL_law_636 (by decide) ?_
    have hM2 := c_X5_suspend l dC dI am cI cZ th zm vm fm H.size (xs (6 * j + 1)) (xs (6 * j + 2)) 0 hokM zB_0
    generalize F_X5_suspend zm vm fm (xs (6 * j + 1)) (xs (6 * j + 2)) 0 = FM at hpu hM2
    have hPc := hP.sub (ws' := (wM am cI cZ th zm vm fm)) [22, 23, 24, 25, 26, 27, 28, 29, 30, 31, 32, 33, 34, 35, 36, 37, 38, 39] rfl
    have hDc := hD.sub (ws' := (wM am cI cZ th zm vm fm)) [22, 23, 24, 25, 26, 27, 28, 29, 30, 31, 32, 33, 34, 35, 36, 37, 38, 39] (by decide) rfl
    have hFc := va_free (wc := (wM am cI cZ th zm vm fm)) hD hS hA [22, 23, 24, 25, 26, 27, 28, 29, 30, 31, 32, 33, 34, 35, 36, 37, 38, 39] rfl
    refine va_calli (va_runV (As := [.int (xs (6 * j + 1)), .int (xs (6 * j + 2)), .int 0]) (rest := []) ⟨hx, hb, hml, hown, hts⟩ hM2 (cwV 3 hts gL_law_X5_suspend rfl rfl rfl (by decide +kernel) ⟨Nat.le_of_ble_eq_true rfl, Nat.le_of_ble_eq_true rfl⟩) (preMw (ci := 5) (q0 := 0) hPc hKc hN hDc rfl rfl rfl) rfl rfl hl.1 rfl (lv_room (Nat.le_of_ble_eq_true rfl)) dL_law_637 ⟨by show 41 + j + 1 + 0 ≤ 1080; omega, by show 1610 + 6 * j + 6 + 0 ≤ 9892; omega⟩) hS (fun q _ h => hFc q h) hFc (fun r6 u9 t9 H1 locs ht hvm hw6 hB hz1 hk1 hS => ?_)
    have hr6 : r6 = FM.1 := hw6
    have hP1 : va_P (dC, dI) vwCl _ t9.heap := hB
    rw [ht] at hP1
    obtain ⟨hP, hD⟩ := va_join (wr := wX ad cI cZ FX.2.2.1 FX.2.2.2.1 FX.2.2.2.2 ++ [(o, .inl (cJ, 1, .inr (.inl g5)))]) (w1 := (wM am cI cZ FM.2.1 FM.2.2.1 FM.2.2.2.1 FM.2.2.2.2)) hP hD [22, 23, 24, 25, 26, 27, 28, 29, 30, 31, 32, 33, 34, 35, 36, 37, 38, 39] [0, 1, 2, 3, 4, 5, 6, 7, 8, 9, 10, 11, 12, 13, 14, 15, 16, 17, 18, 19, 20, 21, 40] rfl rfl (by decide) (by decide) hk1 hFc hP1 (va_D.fst (ws := (wM am cI cZ th zm vm fm)) rfl (hDc.self (sz := H.size)))
    generalize H1 = H at hP hS ⊢
    have hP : va_P (dC, dI) vwCl (wL ad am cI cZ cJ o FX.2.2.1 FX.2.2.2.1 FX.2.2.2.2 FM.2.1 FM.2.2.1 FM.2.2.2.1 FM.2.2.2.2 g5) H := hP.sub [0, 1, 2, 3, 4, 5, 6, 7, 8, 9, 10, 11, 12, 13, 14, 15, 16, 17, 18, 19, 20, 21, 23, 24, 25, 26, 27, 28, 29, 30, 31, 32, 33, 34, 35, 36, 37, 38, 39, 40, 22] rfl
    have hD : va_D (fun q : Nat => s.heap.size ≤ q) (wL ad am cI cZ cJ o FX.2.2.1 FX.2.2.2.1 FX.2.2.2.2 FM.2.1 FM.2.2.1 FM.2.2.2.1 FM.2.2.2.2 g5) := hD.sub [0, 1, 2, 3, 4, 5, 6, 7, 8, 9, 10, 11, 12, 13, 14, 15, 16, 17, 18, 19, 20, 21, 23, 24, 25, 26, 27, 28, 29, 30, 31, 32, 33, 34, 35, 36, 37, 38, 39, 40, 22] (by decide) rfl
    have hR2 := hpu.2.2
    refine lv_istore (lv' := [(6, .int r6), (5, .int r5), (0, .ref b), (1, .ref (ad 0)), (2, .ref (am 0)), (3, .ref o), (4, .int (nI (6 * j)))]) hx hb dL_law_640 hl (by decide) rfl (fun ls hl => ?_)
    refine lv_aload_n hx hb dL_law_642 rfl (lv_at hl 4 rfl) ?_
    have hPc := hP.sub (ws' := (wM am cI cZ FM.2.1 FM.2.2.1 FM.2.2.2.1 FM.2.2.2.2)) [22, 23, 24, 25, 26, 27, 28, 29, 30, 31, 32, 33, 34, 35, 36, 37, 38, 39] rfl
    refine vp_callSi (W.runV (As := []) (rest := []) ⟨hx, hb, hml, hown, hts⟩ (c_X5_thrown l dC dI am cI cZ FM.2.1 FM.2.2.1 FM.2.2.2.1 FM.2.2.2.2 hR2.2.1) (cwV 0 hts gL_law_X5_thrown rfl rfl rfl (by decide +kernel) ⟨Nat.le_of_ble_eq_true rfl, Nat.le_of_ble_eq_true rfl⟩) (preM (ci := 5) (q0 := 0) hPc hKc hN rfl rfl rfl) rfl rfl hl.1 rfl (lv_room (Nat.le_of_ble_eq_true rfl)) dL_law_643 ⟨by show 41 + j + 1 + 0 ≤ 1080; omega, by show 1610 + 6 * j + 6 + 0 ≤ 9892; omega⟩) (fun r7 h9 => ?_)
    have hr7 : r7 = FM.2.1 := h9
    refine lv_iload hx hb dL_law_646 (lv_at hl 1 rfl) ?_
    refine lv_icmp_eq (tgt := 653) hx hb dL_law_648 (by decide) (fun _ => ?_) (fun h9 => absurd (by rw [hr7, hw.1]; exact hpu.1) h9)
    refine lv_iload hx hb dL_law_653 (lv_at hl 1 rfl) ?_
    refine lv_if_ne (tgt := 670) hx hb dL_law_655 (by decide) (fun c5 => ?_) (fun c5 => ?_)
    · refine lv_goto (tgt := 1108) hx hb dL_law_670 (by decide) ?_
      refine W.widen (k := 41 + j + 1) (n := 1610 + 6 * j + 6) (by omega) (by omega) ?_
      exact hk FX.2.2.1 FX.2.2.2.1 FX.2.2.2.2 FM.2.1 FM.2.2.1 FM.2.2.2.1 FM.2.2.2.2 g5 H locs ls hR2 hP hD hS (lv_sub hl [2, 3, 4, 5, 6] rfl)
    · refine lv_aload_n hx hb dL_law_658 rfl (lv_at hl 5 rfl) ?_
      refine lv_iconst (v := 0) hx hb dL_law_659 (by decide) ?_
      have h0 : FX.1 = 0 := hz_suspend hkc (hw.1.symm.trans c5)
      refine va_lald hx hb hK hP 40 2 rfl rfl (vp_in_nI (n := 0) (by decide) (by decide)) dL_law_660 ?_
      refine lv_iload hx hb dL_law_661 (lv_at hl 0 rfl) ?_
      refine lv_i2l hx hb dL_law_663 rfl ?_
      refine W.lcmp hx hb dL_law_664 ?_
      refine lv_if_eq (tgt := 670) hx hb dL_law_665 (by decide) (fun _ => ?_) (fun h9 => absurd (lc_eq (by rw [hr6, ← hpu.2.1 h0]; exact hw.2 h0)) h9)
      refine lv_goto (tgt := 1108) hx hb dL_law_670 (by decide) ?_
      refine W.widen (k := 41 + j + 1) (n := 1610 + 6 * j + 6) (by omega) (by omega) ?_
      exact hk FX.2.2.1 FX.2.2.2.1 FX.2.2.2.2 FM.2.1 FM.2.2.1 FM.2.2.2.1 FM.2.2.2.2 g5 H locs ls hR2 hP hD hS (lv_sub hl [2, 3, 4, 5, 6] rfl)
  · refine lv_iconst (v := 1) hx hb dL_law_599 (by decide) ?_
    refine lv_goto (tgt := 604) hx hb dL_law_600 (by decide) ?_
    refine lv_aload_n hx hb dL_law_604 rfl (lv_at hl 3 rfl) ?_
    have hpu := pu_suspend hR (xs (6 * j + 1)) (xs (6 * j + 2)) 1 zB_1
    have hkc := kc_suspend zx vx fx (xs (6 * j + 1)) (xs (6 * j + 2)) 1
    have hM1 := c_L_suspend l dC dI ad cI cZ cJ zx vx fx H.size o g (xs (6 * j + 1)) (xs (6 * j + 2)) 1 hokX hlt zB_1
    generalize F_X4_suspend zx vx fx (xs (6 * j + 1)) (xs (6 * j + 2)) 1 = FX at hpu hkc hM1
    have hPc := hP.sub (ws' := (wXo ad cI cZ cJ o zx vx fx g)) [0, 1, 2, 3, 4, 5, 6, 7, 8, 9, 10, 11, 12, 13, 14, 15, 16, 17, 18, 19, 20, 21, 40] rfl
    have hDc := hD.sub (ws' := (wXo ad cI cZ cJ o zx vx fx g)) [0, 1, 2, 3, 4, 5, 6, 7, 8, 9, 10, 11, 12, 13, 14, 15, 16, 17, 18, 19, 20, 21, 40] (by decide) rfl
    have hFc := va_free (wc := (wXo ad cI cZ cJ o zx vx fx g)) hD hS hA [0, 1, 2, 3, 4, 5, 6, 7, 8, 9, 10, 11, 12, 13, 14, 15, 16, 17, 18, 19, 20, 21, 40] rfl
    refine va_calli (vx_runSW (hh := [(0, 12, 15, 19), (0, 12, 19, 13)]) (As := [.ref (ad 0), .int (xs (6 * j + 1)), .int (xs (6 * j + 2)), .int 1, .ref o]) (rest := []) ⟨hx, hb, hml, hown, hts⟩ hM1 (vx_cwSW 5 hts gL_law_L_suspend rfl rfl rfl (by decide +kernel) ⟨Nat.le_of_ble_eq_true rfl, Nat.le_of_ble_eq_true rfl⟩) (preL hPc hK hN hDc hT hC hS hFc) rfl rfl hl.1 rfl (lv_room (Nat.le_of_ble_eq_true rfl)) dL_law_605 ⟨by show 41 + j + 1 ≤ 1080; omega, by show 1610 + 6 * j + 6 ≤ 9892; omega⟩) hS (fun q _ h => hFc q h) hFc (fun r5 g5 t9 H1 locs ht hvm hw hB hz1 hk1 hS => ?_)
    have hP1 : va_P (dC, dI) vwCl _ t9.heap := hB
    rw [ht] at hP1
    obtain ⟨hP, hD⟩ := va_join (wr := wM am cI cZ th zm vm fm) (w1 := (wXo ad cI cZ cJ o FX.2.2.1 FX.2.2.2.1 FX.2.2.2.2 g5)) hP hD [0, 1, 2, 3, 4, 5, 6, 7, 8, 9, 10, 11, 12, 13, 14, 15, 16, 17, 18, 19, 20, 21, 40] [22, 23, 24, 25, 26, 27, 28, 29, 30, 31, 32, 33, 34, 35, 36, 37, 38, 39] rfl rfl (by decide) (by decide) hk1 hFc hP1 (va_D.fst (ws := (wXo ad cI cZ cJ o zx vx fx g)) rfl (hDc.self (sz := H.size)))
    generalize H1 = H at hP hS ⊢
    have hP : va_P (dC, dI) vwCl (wL ad am cI cZ cJ o FX.2.2.1 FX.2.2.2.1 FX.2.2.2.2 th zm vm fm g5) H := hP.sub [18, 19, 20, 21, 22, 23, 24, 25, 26, 27, 28, 29, 30, 31, 32, 33, 34, 35, 36, 37, 38, 39, 0, 1, 2, 3, 4, 5, 6, 7, 8, 9, 10, 11, 12, 13, 14, 15, 16, 17, 40] rfl
    have hD : va_D (fun q : Nat => s.heap.size ≤ q) (wL ad am cI cZ cJ o FX.2.2.1 FX.2.2.2.1 FX.2.2.2.2 th zm vm fm g5) := hD.sub [18, 19, 20, 21, 22, 23, 24, 25, 26, 27, 28, 29, 30, 31, 32, 33, 34, 35, 36, 37, 38, 39, 0, 1, 2, 3, 4, 5, 6, 7, 8, 9, 10, 11, 12, 13, 14, 15, 16, 17, 40] (by decide) rfl
    refine lv_istore (lv' := [(5, .int r5), (0, .ref b), (1, .ref (ad 0)), (2, .ref (am 0)), (3, .ref o), (4, .int (nI (6 * j)))]) hx hb dL_law_608 hl (by decide) rfl (fun ls hl => ?_)
    refine lv_aload_n hx hb dL_law_610 rfl (lv_at hl 3 rfl) ?_
    refine lv_aload_n hx hb dL_law_611 rfl (lv_at hl 1 rfl) ?_
    refine lv_iload hx hb dL_law_612 (lv_at hl 5 rfl) ?_
    refine lv_iconst (v := 1) hx hb dL_law_614 (by decide) ?_
    refine lv_iadd hx hb dL_law_615 ?_
    refine xe_top (nI_add (6 * j) 1) ?_
    refine xs_ld hx hb hX hbl hbA hS (k := 6 * j + 1) (by omega) (by omega) dL_law_616 ?_
    refine lv_aload_n hx hb dL_law_617 rfl (lv_at hl 1 rfl) ?_
    refine lv_iload hx hb dL_law_618 (lv_at hl 5 rfl) ?_
    refine lv_iconst (v := 2) hx hb dL_law_620 (by decide) ?_
    refine lv_iadd hx hb dL_law_621 ?_
    refine xe_top (nI_add (6 * j) 2) ?_
    refine xs_ld hx hb hX hbl hbA hS (k := 6 * j + 2) (by omega) (by omega) dL_law_622 ?_
    refine lv_aload_n hx hb dL_law_623 rfl (lv_at hl 1 rfl) ?_
    refine lv_iload hx hb dL_law_624 (lv_at hl 5 rfl) ?_
    refine lv_iconst (v := 3) hx hb dL_law_626 (by decide) ?_
    refine lv_iadd hx hb dL_law_627 ?_
    refine xe_top (nI_add (6 * j) 3) ?_
    refine xs_ld hx hb hX hbl hbA hS (k := 6 * j + 3) (by omega) (by omega) dL_law_628 ?_
    refine lv_if_eq (tgt := 636) hx hb dL_law_629 (by decide) (fun h9 => absurd h9 cz) (fun _ => ?_)
    refine lv_iconst (v := 1) hx hb dL_law_632 (by decide) ?_
    refine lv_goto (tgt := 637) hx hb dL_law_633 (by decide) ?_
    have hM2 := c_X5_suspend l dC dI am cI cZ th zm vm fm H.size (xs (6 * j + 1)) (xs (6 * j + 2)) 1 hokM zB_1
    generalize F_X5_suspend zm vm fm (xs (6 * j + 1)) (xs (6 * j + 2)) 1 = FM at hpu hM2
    have hPc := hP.sub (ws' := (wM am cI cZ th zm vm fm)) [22, 23, 24, 25, 26, 27, 28, 29, 30, 31, 32, 33, 34, 35, 36, 37, 38, 39] rfl
    have hDc := hD.sub (ws' := (wM am cI cZ th zm vm fm)) [22, 23, 24, 25, 26, 27, 28, 29, 30, 31, 32, 33, 34, 35, 36, 37, 38, 39] (by decide) rfl
    have hFc := va_free (wc := (wM am cI cZ th zm vm fm)) hD hS hA [22, 23, 24, 25, 26, 27, 28, 29, 30, 31, 32, 33, 34, 35, 36, 37, 38, 39] rfl
    refine va_calli (va_runV (As := [.int (xs (6 * j + 1)), .int (xs (6 * j + 2)), .int 1]) (rest := []) ⟨hx, hb, hml, hown, hts⟩ hM2 (cwV 3 hts gL_law_X5_suspend rfl rfl rfl (by decide +kernel) ⟨Nat.le_of_ble_eq_true rfl, Nat.le_of_ble_eq_true rfl⟩) (preMw (ci := 5) (q0 := 0) hPc hKc hN hDc rfl rfl rfl) rfl rfl hl.1 rfl (lv_room (Nat.le_of_ble_eq_true rfl)) dL_law_637 ⟨by show 41 + j + 1 + 0 ≤ 1080; omega, by show 1610 + 6 * j + 6 + 0 ≤ 9892; omega⟩) hS (fun q _ h => hFc q h) hFc (fun r6 u9 t9 H1 locs ht hvm hw6 hB hz1 hk1 hS => ?_)
    have hr6 : r6 = FM.1 := hw6
    have hP1 : va_P (dC, dI) vwCl _ t9.heap := hB
    rw [ht] at hP1
    obtain ⟨hP, hD⟩ := va_join (wr := wX ad cI cZ FX.2.2.1 FX.2.2.2.1 FX.2.2.2.2 ++ [(o, .inl (cJ, 1, .inr (.inl g5)))]) (w1 := (wM am cI cZ FM.2.1 FM.2.2.1 FM.2.2.2.1 FM.2.2.2.2)) hP hD [22, 23, 24, 25, 26, 27, 28, 29, 30, 31, 32, 33, 34, 35, 36, 37, 38, 39] [0, 1, 2, 3, 4, 5, 6, 7, 8, 9, 10, 11, 12, 13, 14, 15, 16, 17, 18, 19, 20, 21, 40] rfl rfl (by decide) (by decide) hk1 hFc hP1 (va_D.fst (ws := (wM am cI cZ th zm vm fm)) rfl (hDc.self (sz := H.size)))
    generalize H1 = H at hP hS ⊢
    have hP : va_P (dC, dI) vwCl (wL ad am cI cZ cJ o FX.2.2.1 FX.2.2.2.1 FX.2.2.2.2 FM.2.1 FM.2.2.1 FM.2.2.2.1 FM.2.2.2.2 g5) H := hP.sub [0, 1, 2, 3, 4, 5, 6, 7, 8, 9, 10, 11, 12, 13, 14, 15, 16, 17, 18, 19, 20, 21, 23, 24, 25, 26, 27, 28, 29, 30, 31, 32, 33, 34, 35, 36, 37, 38, 39, 40, 22] rfl
    have hD : va_D (fun q : Nat => s.heap.size ≤ q) (wL ad am cI cZ cJ o FX.2.2.1 FX.2.2.2.1 FX.2.2.2.2 FM.2.1 FM.2.2.1 FM.2.2.2.1 FM.2.2.2.2 g5) := hD.sub [0, 1, 2, 3, 4, 5, 6, 7, 8, 9, 10, 11, 12, 13, 14, 15, 16, 17, 18, 19, 20, 21, 23, 24, 25, 26, 27, 28, 29, 30, 31, 32, 33, 34, 35, 36, 37, 38, 39, 40, 22] (by decide) rfl
    have hR2 := hpu.2.2
    refine lv_istore (lv' := [(6, .int r6), (5, .int r5), (0, .ref b), (1, .ref (ad 0)), (2, .ref (am 0)), (3, .ref o), (4, .int (nI (6 * j)))]) hx hb dL_law_640 hl (by decide) rfl (fun ls hl => ?_)
    refine lv_aload_n hx hb dL_law_642 rfl (lv_at hl 4 rfl) ?_
    have hPc := hP.sub (ws' := (wM am cI cZ FM.2.1 FM.2.2.1 FM.2.2.2.1 FM.2.2.2.2)) [22, 23, 24, 25, 26, 27, 28, 29, 30, 31, 32, 33, 34, 35, 36, 37, 38, 39] rfl
    refine vp_callSi (W.runV (As := []) (rest := []) ⟨hx, hb, hml, hown, hts⟩ (c_X5_thrown l dC dI am cI cZ FM.2.1 FM.2.2.1 FM.2.2.2.1 FM.2.2.2.2 hR2.2.1) (cwV 0 hts gL_law_X5_thrown rfl rfl rfl (by decide +kernel) ⟨Nat.le_of_ble_eq_true rfl, Nat.le_of_ble_eq_true rfl⟩) (preM (ci := 5) (q0 := 0) hPc hKc hN rfl rfl rfl) rfl rfl hl.1 rfl (lv_room (Nat.le_of_ble_eq_true rfl)) dL_law_643 ⟨by show 41 + j + 1 + 0 ≤ 1080; omega, by show 1610 + 6 * j + 6 + 0 ≤ 9892; omega⟩) (fun r7 h9 => ?_)
    have hr7 : r7 = FM.2.1 := h9
    refine lv_iload hx hb dL_law_646 (lv_at hl 1 rfl) ?_
    refine lv_icmp_eq (tgt := 653) hx hb dL_law_648 (by decide) (fun _ => ?_) (fun h9 => absurd (by rw [hr7, hw.1]; exact hpu.1) h9)
    refine lv_iload hx hb dL_law_653 (lv_at hl 1 rfl) ?_
    refine lv_if_ne (tgt := 670) hx hb dL_law_655 (by decide) (fun c5 => ?_) (fun c5 => ?_)
    · refine lv_goto (tgt := 1108) hx hb dL_law_670 (by decide) ?_
      refine W.widen (k := 41 + j + 1) (n := 1610 + 6 * j + 6) (by omega) (by omega) ?_
      exact hk FX.2.2.1 FX.2.2.2.1 FX.2.2.2.2 FM.2.1 FM.2.2.1 FM.2.2.2.1 FM.2.2.2.2 g5 H locs ls hR2 hP hD hS (lv_sub hl [2, 3, 4, 5, 6] rfl)
    · refine lv_aload_n hx hb dL_law_658 rfl (lv_at hl 5 rfl) ?_
      refine lv_iconst (v := 0) hx hb dL_law_659 (by decide) ?_
      have h0 : FX.1 = 0 := hz_suspend hkc (hw.1.symm.trans c5)
      refine va_lald hx hb hK hP 40 2 rfl rfl (vp_in_nI (n := 0) (by decide) (by decide)) dL_law_660 ?_
      refine lv_iload hx hb dL_law_661 (lv_at hl 0 rfl) ?_
      refine lv_i2l hx hb dL_law_663 rfl ?_
      refine W.lcmp hx hb dL_law_664 ?_
      refine lv_if_eq (tgt := 670) hx hb dL_law_665 (by decide) (fun _ => ?_) (fun h9 => absurd (lc_eq (by rw [hr6, ← hpu.2.1 h0]; exact hw.2 h0)) h9)
      refine lv_goto (tgt := 1108) hx hb dL_law_670 (by decide) ?_
      refine W.widen (k := 41 + j + 1) (n := 1610 + 6 * j + 6) (by omega) (by omega) ?_
      exact hk FX.2.2.1 FX.2.2.2.1 FX.2.2.2.2 FM.2.1 FM.2.2.1 FM.2.2.2.1 FM.2.2.2.2 g5 H locs ls hR2 hP hD hS (lv_sub hl [2, 3, 4, 5, 6] rfl)
set_option maxHeartbeats 4000000 in
set_option maxRecDepth 100000 in
theorem law_end {p : Program} {l : Launch} {e : Env} {s : State} {m : MethodId} {below : List Frame} {meth : Method} {c : Code} {dC : Nat → ClassId} {dI : Nat → Nat → Nat} {ad am : Nat → Nat} {cI cZ cJ : ClassId} {o b L : Nat} {xs : Nat → Int32} (hL : L ≤ 3072) (C0 : lw_At p s m meth c b L xs) (hlt : l.stackTraces = false) (hK : va_K (dC, dI) vwCl (cL3 cI cZ cJ) s) (hN : nW s) (hT : tW (fun q : Nat => s.heap.size ≤ q) s) (hC : cW s) (j : Nat) (hj : 6 * j + 6 ≤ L) :
    ∀ (zx : Nat → Nat) (vx : Nat → Int32) (fx : Nat → Nat → Int32) (th : Int32) (zm : Nat → Nat) (vm : Nat → Int32) (fm : Nat → Nat → Int32) (g : Nat → Int64) (H : Heap) (locs : List Loc) (ls : Array Slot), REL zx vx fx zm vm fm → va_P (dC, dI) vwCl (wL ad am cI cZ cJ o zx vx fx th zm vm fm g) H → va_D (fun q : Nat => s.heap.size ≤ q) (wL ad am cI cZ cJ o zx vx fx th zm vm fm g) → va_S (fun q : Nat => s.heap.size ≤ q) s.heap H locs → lv_has ls 7 [(0, .ref b), (1, .ref (ad 0)), (2, .ref (am 0)), (3, .ref o), (4, .int (nI (6 * j)))] → (∀ (zx : Nat → Nat) (vx : Nat → Int32) (fx : Nat → Nat → Int32) (th : Int32) (zm : Nat → Nat) (vm : Nat → Int32) (fm : Nat → Nat → Int32) (g : Nat → Int64) (H : Heap) (locs : List Loc) (ls : Array Slot), REL zx vx fx zm vm fm → va_P (dC, dI) vwCl (wL ad am cI cZ cJ o zx vx fx th zm vm fm g) H → va_D (fun q : Nat => s.heap.size ≤ q) (wL ad am cI cZ cJ o zx vx fx th zm vm fm g) → va_S (fun q : Nat => s.heap.size ≤ q) s.heap H locs → lv_has ls 7 [(0, .ref b), (1, .ref (ad 0)), (2, .ref (am 0)), (3, .ref o), (4, .int (nI (6 * j)))] → W p l e room_1 s m #[Value.ref b] below meth c H locs (41 + j + 1) (1610 + 6 * j + 6) (lw_Z below #[Value.ref b] s) (F0 m 1108 ls [])) → W p l e room_1 s m #[Value.ref b] below meth c H locs (41 + j) (1610 + 6 * j) (lw_Z below #[Value.ref b] s) (F0 m 673 ls []) := by
  obtain ⟨hx, hb, hr, hml, hown, hts0, hX, hbl, hlocks, hgv⟩ := C0
  have hts := fun w h => hts0 w (wsL_law_in w h)
  have hA : ∀ q : Nat, s.heap.size ≤ q → (fun q : Nat => s.heap.size ≤ q) q := fun _ h => h
  have hbA : ¬ (fun q : Nat => s.heap.size ≤ q) b := Nat.not_le.mpr hbl
  have hKc := hK.sub (tys' := [(cI, .int), (cZ, .boolean)]) [0, 1] rfl
  intro zx vx fx th zm vm fm g H locs ls hR hP hD hS hl hk
  have hokX := hR.1
  have hokM := hR.2.1
  refine lv_aload_n hx hb dL_law_673 rfl (lv_at hl 1 rfl) ?_
  refine lv_aload_n hx hb dL_law_674 rfl (lv_at hl 0 rfl) ?_
  refine lv_iload hx hb dL_law_675 (lv_at hl 4 rfl) ?_
  refine lv_iconst (v := 1) hx hb dL_law_677 (by decide) ?_
  refine lv_iadd hx hb dL_law_678 ?_
  refine xe_top (nI_add (6 * j) 1) ?_
  refine xs_ld hx hb hX hbl hbA hS (k := 6 * j + 1) (by omega) (by omega) dL_law_679 ?_
  refine lv_aload_n hx hb dL_law_680 rfl (lv_at hl 0 rfl) ?_
  refine lv_iload hx hb dL_law_681 (lv_at hl 4 rfl) ?_
  refine lv_iconst (v := 2) hx hb dL_law_683 (by decide) ?_
  refine lv_iadd hx hb dL_law_684 ?_
  refine xe_top (nI_add (6 * j) 2) ?_
  refine xs_ld hx hb hX hbl hbA hS (k := 6 * j + 2) (by omega) (by omega) dL_law_685 ?_
  have hpu := pu_end hR (xs (6 * j + 1)) (xs (6 * j + 2))
  have hPc := hP.sub (ws' := (wX ad cI cZ zx vx fx)) [0, 1, 2, 3, 4, 5, 6, 7, 8, 9, 10, 11, 12, 13, 14, 15, 16, 17, 18, 19, 20, 21] rfl
  have hM1 := c_X4_end l dC dI ad cI cZ zx vx fx H.size (xs (6 * j + 1)) (xs (6 * j + 2)) hokX
  generalize F_X4_end zx vx fx (xs (6 * j + 1)) (xs (6 * j + 2)) = FX at hpu hM1
  have hDc := hD.sub (ws' := (wX ad cI cZ zx vx fx)) [0, 1, 2, 3, 4, 5, 6, 7, 8, 9, 10, 11, 12, 13, 14, 15, 16, 17, 18, 19, 20, 21] (by decide) rfl
  have hFc := va_free (wc := (wX ad cI cZ zx vx fx)) hD hS hA [0, 1, 2, 3, 4, 5, 6, 7, 8, 9, 10, 11, 12, 13, 14, 15, 16, 17, 18, 19, 20, 21] rfl
  refine va_calli (va_runV (As := [.int (xs (6 * j + 1)), .int (xs (6 * j + 2))]) (rest := []) ⟨hx, hb, hml, hown, hts⟩ hM1 (cwV 2 hts gL_law_X4_end rfl rfl rfl (by decide +kernel) ⟨Nat.le_of_ble_eq_true rfl, Nat.le_of_ble_eq_true rfl⟩) (preXw (ci := 4) (q0 := 0) hPc hKc hN hDc rfl rfl rfl) rfl rfl hl.1 rfl (lv_room (Nat.le_of_ble_eq_true rfl)) dL_law_686 ⟨by show 41 + j + 0 ≤ 1080; omega, by show 1610 + 6 * j + 0 ≤ 9892; omega⟩) hS (fun q _ h => hFc q h) hFc (fun r5 u9 t9 H1 locs ht hvm hw hB hz1 hk1 hS => ?_)
  have hr5 : r5 = FX.1 := hw
  have hP1 : va_P (dC, dI) vwCl _ t9.heap := hB
  rw [ht] at hP1
  obtain ⟨hP, hD⟩ := va_join (wr := wM am cI cZ th zm vm fm ++ [(o, .inl (cJ, 1, .inr (.inl g)))]) (w1 := (wX ad cI cZ FX.2.1 FX.2.2.1 FX.2.2.2)) hP hD [0, 1, 2, 3, 4, 5, 6, 7, 8, 9, 10, 11, 12, 13, 14, 15, 16, 17, 18, 19, 20, 21] [22, 23, 24, 25, 26, 27, 28, 29, 30, 31, 32, 33, 34, 35, 36, 37, 38, 39, 40] rfl rfl (by decide) (by decide) hk1 hFc hP1 (va_D.fst (ws := (wX ad cI cZ zx vx fx)) rfl (hDc.self (sz := H.size)))
  generalize H1 = H at hP hS ⊢
  have hP : va_P (dC, dI) vwCl (wL ad am cI cZ cJ o FX.2.1 FX.2.2.1 FX.2.2.2 th zm vm fm g) H := hP.sub [19, 20, 21, 22, 23, 24, 25, 26, 27, 28, 29, 30, 31, 32, 33, 34, 35, 36, 37, 38, 39, 40, 0, 1, 2, 3, 4, 5, 6, 7, 8, 9, 10, 11, 12, 13, 14, 15, 16, 17, 18] rfl
  have hD : va_D (fun q : Nat => s.heap.size ≤ q) (wL ad am cI cZ cJ o FX.2.1 FX.2.2.1 FX.2.2.2 th zm vm fm g) := hD.sub [19, 20, 21, 22, 23, 24, 25, 26, 27, 28, 29, 30, 31, 32, 33, 34, 35, 36, 37, 38, 39, 40, 0, 1, 2, 3, 4, 5, 6, 7, 8, 9, 10, 11, 12, 13, 14, 15, 16, 17, 18] (by decide) rfl
  refine lv_aload_n hx hb dL_law_689 rfl (lv_at hl 2 rfl) ?_
  refine lv_aload_n hx hb dL_law_690 rfl (lv_at hl 0 rfl) ?_
  refine lv_iload hx hb dL_law_691 (lv_at hl 4 rfl) ?_
  refine lv_iconst (v := 1) hx hb dL_law_693 (by decide) ?_
  refine lv_iadd hx hb dL_law_694 ?_
  refine xe_top (nI_add (6 * j) 1) ?_
  refine xs_ld hx hb hX hbl hbA hS (k := 6 * j + 1) (by omega) (by omega) dL_law_695 ?_
  refine lv_aload_n hx hb dL_law_696 rfl (lv_at hl 0 rfl) ?_
  refine lv_iload hx hb dL_law_697 (lv_at hl 4 rfl) ?_
  refine lv_iconst (v := 2) hx hb dL_law_699 (by decide) ?_
  refine lv_iadd hx hb dL_law_700 ?_
  refine xe_top (nI_add (6 * j) 2) ?_
  refine xs_ld hx hb hX hbl hbA hS (k := 6 * j + 2) (by omega) (by omega) dL_law_701 ?_
  have hM2 := c_X5_end l dC dI am cI cZ th zm vm fm H.size (xs (6 * j + 1)) (xs (6 * j + 2)) hokM
  generalize F_X5_end zm vm fm (xs (6 * j + 1)) (xs (6 * j + 2)) = FM at hpu hM2
  have hPc := hP.sub (ws' := (wM am cI cZ th zm vm fm)) [22, 23, 24, 25, 26, 27, 28, 29, 30, 31, 32, 33, 34, 35, 36, 37, 38, 39] rfl
  have hDc := hD.sub (ws' := (wM am cI cZ th zm vm fm)) [22, 23, 24, 25, 26, 27, 28, 29, 30, 31, 32, 33, 34, 35, 36, 37, 38, 39] (by decide) rfl
  have hFc := va_free (wc := (wM am cI cZ th zm vm fm)) hD hS hA [22, 23, 24, 25, 26, 27, 28, 29, 30, 31, 32, 33, 34, 35, 36, 37, 38, 39] rfl
  refine va_calli (va_runV (As := [.int (xs (6 * j + 1)), .int (xs (6 * j + 2))]) (rest := [.int r5]) ⟨hx, hb, hml, hown, hts⟩ hM2 (cwV 2 hts gL_law_X5_end rfl rfl rfl (by decide +kernel) ⟨Nat.le_of_ble_eq_true rfl, Nat.le_of_ble_eq_true rfl⟩) (preMw (ci := 5) (q0 := 0) hPc hKc hN hDc rfl rfl rfl) rfl rfl hl.1 rfl (lv_room (Nat.le_of_ble_eq_true rfl)) dL_law_702 ⟨by show 41 + j + 0 ≤ 1080; omega, by show 1610 + 6 * j + 0 ≤ 9892; omega⟩) hS (fun q _ h => hFc q h) hFc (fun r6 u9 t9 H1 locs ht hvm hw6 hB hz1 hk1 hS => ?_)
  have hr6 : r6 = FM.1 := hw6
  have hP1 : va_P (dC, dI) vwCl _ t9.heap := hB
  rw [ht] at hP1
  obtain ⟨hP, hD⟩ := va_join (wr := wX ad cI cZ FX.2.1 FX.2.2.1 FX.2.2.2 ++ [(o, .inl (cJ, 1, .inr (.inl g)))]) (w1 := (wM am cI cZ FM.2.1 FM.2.2.1 FM.2.2.2.1 FM.2.2.2.2)) hP hD [22, 23, 24, 25, 26, 27, 28, 29, 30, 31, 32, 33, 34, 35, 36, 37, 38, 39] [0, 1, 2, 3, 4, 5, 6, 7, 8, 9, 10, 11, 12, 13, 14, 15, 16, 17, 18, 19, 20, 21, 40] rfl rfl (by decide) (by decide) hk1 hFc hP1 (va_D.fst (ws := (wM am cI cZ th zm vm fm)) rfl (hDc.self (sz := H.size)))
  generalize H1 = H at hP hS ⊢
  have hP : va_P (dC, dI) vwCl (wL ad am cI cZ cJ o FX.2.1 FX.2.2.1 FX.2.2.2 FM.2.1 FM.2.2.1 FM.2.2.2.1 FM.2.2.2.2 g) H := hP.sub [0, 1, 2, 3, 4, 5, 6, 7, 8, 9, 10, 11, 12, 13, 14, 15, 16, 17, 18, 19, 20, 21, 23, 24, 25, 26, 27, 28, 29, 30, 31, 32, 33, 34, 35, 36, 37, 38, 39, 40, 22] rfl
  have hD : va_D (fun q : Nat => s.heap.size ≤ q) (wL ad am cI cZ cJ o FX.2.1 FX.2.2.1 FX.2.2.2 FM.2.1 FM.2.2.1 FM.2.2.2.1 FM.2.2.2.2 g) := hD.sub [0, 1, 2, 3, 4, 5, 6, 7, 8, 9, 10, 11, 12, 13, 14, 15, 16, 17, 18, 19, 20, 21, 23, 24, 25, 26, 27, 28, 29, 30, 31, 32, 33, 34, 35, 36, 37, 38, 39, 40, 22] (by decide) rfl
  have hR2 := hpu.2
  refine lv_icmp_eq (tgt := 1108) hx hb dL_law_705 (by decide) (fun _ => ?_) (fun h9 => absurd (by rw [hr5, hr6]; exact hpu.1) h9)
  refine W.widen (k := 41 + j + 1) (n := 1610 + 6 * j + 6) (by omega) (by omega) ?_
  exact hk FX.2.1 FX.2.2.1 FX.2.2.2 FM.2.1 FM.2.2.1 FM.2.2.2.1 FM.2.2.2.2 g H locs ls hR2 hP hD hS (lv_sub hl [0, 1, 2, 3, 4] rfl)
set_option maxHeartbeats 4000000 in
set_option maxRecDepth 100000 in
theorem law_may {p : Program} {l : Launch} {e : Env} {s : State} {m : MethodId} {below : List Frame} {meth : Method} {c : Code} {dC : Nat → ClassId} {dI : Nat → Nat → Nat} {ad am : Nat → Nat} {cI cZ cJ : ClassId} {o b L : Nat} {xs : Nat → Int32} (hL : L ≤ 3072) (C0 : lw_At p s m meth c b L xs) (hlt : l.stackTraces = false) (hK : va_K (dC, dI) vwCl (cL3 cI cZ cJ) s) (hN : nW s) (hT : tW (fun q : Nat => s.heap.size ≤ q) s) (hC : cW s) (j : Nat) (hj : 6 * j + 6 ≤ L) :
    ∀ (zx : Nat → Nat) (vx : Nat → Int32) (fx : Nat → Nat → Int32) (th : Int32) (zm : Nat → Nat) (vm : Nat → Int32) (fm : Nat → Nat → Int32) (g : Nat → Int64) (H : Heap) (locs : List Loc) (ls : Array Slot), REL zx vx fx zm vm fm → va_P (dC, dI) vwCl (wL ad am cI cZ cJ o zx vx fx th zm vm fm g) H → va_D (fun q : Nat => s.heap.size ≤ q) (wL ad am cI cZ cJ o zx vx fx th zm vm fm g) → va_S (fun q : Nat => s.heap.size ≤ q) s.heap H locs → lv_has ls 7 [(0, .ref b), (1, .ref (ad 0)), (2, .ref (am 0)), (3, .ref o), (4, .int (nI (6 * j)))] → (∀ (zx : Nat → Nat) (vx : Nat → Int32) (fx : Nat → Nat → Int32) (th : Int32) (zm : Nat → Nat) (vm : Nat → Int32) (fm : Nat → Nat → Int32) (g : Nat → Int64) (H : Heap) (locs : List Loc) (ls : Array Slot), REL zx vx fx zm vm fm → va_P (dC, dI) vwCl (wL ad am cI cZ cJ o zx vx fx th zm vm fm g) H → va_D (fun q : Nat => s.heap.size ≤ q) (wL ad am cI cZ cJ o zx vx fx th zm vm fm g) → va_S (fun q : Nat => s.heap.size ≤ q) s.heap H locs → lv_has ls 7 [(0, .ref b), (1, .ref (ad 0)), (2, .ref (am 0)), (3, .ref o), (4, .int (nI (6 * j)))] → W p l e room_1 s m #[Value.ref b] below meth c H locs (41 + j + 1) (1610 + 6 * j + 6) (lw_Z below #[Value.ref b] s) (F0 m 1108 ls [])) → W p l e room_1 s m #[Value.ref b] below meth c H locs (41 + j) (1610 + 6 * j) (lw_Z below #[Value.ref b] s) (F0 m 710 ls []) := by
  obtain ⟨hx, hb, hr, hml, hown, hts0, hX, hbl, hlocks, hgv⟩ := C0
  have hts := fun w h => hts0 w (wsL_law_in w h)
  have hA : ∀ q : Nat, s.heap.size ≤ q → (fun q : Nat => s.heap.size ≤ q) q := fun _ h => h
  have hbA : ¬ (fun q : Nat => s.heap.size ≤ q) b := Nat.not_le.mpr hbl
  have hKc := hK.sub (tys' := [(cI, .int), (cZ, .boolean)]) [0, 1] rfl
  intro zx vx fx th zm vm fm g H locs ls hR hP hD hS hl hk
  have hokX := hR.1
  have hokM := hR.2.1
  refine lv_aload_n hx hb dL_law_710 rfl (lv_at hl 1 rfl) ?_
  refine lv_aload_n hx hb dL_law_711 rfl (lv_at hl 0 rfl) ?_
  refine lv_iload hx hb dL_law_712 (lv_at hl 4 rfl) ?_
  refine lv_iconst (v := 1) hx hb dL_law_714 (by decide) ?_
  refine lv_iadd hx hb dL_law_715 ?_
  refine xe_top (nI_add (6 * j) 1) ?_
  refine xs_ld hx hb hX hbl hbA hS (k := 6 * j + 1) (by omega) (by omega) dL_law_716 ?_
  refine lv_aload_n hx hb dL_law_717 rfl (lv_at hl 0 rfl) ?_
  refine lv_iload hx hb dL_law_718 (lv_at hl 4 rfl) ?_
  refine lv_iconst (v := 2) hx hb dL_law_720 (by decide) ?_
  refine lv_iadd hx hb dL_law_721 ?_
  refine xe_top (nI_add (6 * j) 2) ?_
  refine xs_ld hx hb hX hbl hbA hS (k := 6 * j + 2) (by omega) (by omega) dL_law_722 ?_
  refine lv_aload_n hx hb dL_law_723 rfl (lv_at hl 0 rfl) ?_
  refine lv_iload hx hb dL_law_724 (lv_at hl 4 rfl) ?_
  refine lv_iconst (v := 3) hx hb dL_law_726 (by decide) ?_
  refine lv_iadd hx hb dL_law_727 ?_
  refine xe_top (nI_add (6 * j) 3) ?_
  refine xs_ld hx hb hX hbl hbA hS (k := 6 * j + 3) (by omega) (by omega) dL_law_728 ?_
  refine lv_aload_n hx hb dL_law_729 rfl (lv_at hl 0 rfl) ?_
  refine lv_iload hx hb dL_law_730 (lv_at hl 4 rfl) ?_
  refine lv_iconst (v := 4) hx hb dL_law_732 (by decide) ?_
  refine lv_iadd hx hb dL_law_733 ?_
  refine xe_top (nI_add (6 * j) 4) ?_
  refine xs_ld hx hb hX hbl hbA hS (k := 6 * j + 4) (by omega) (by omega) dL_law_734 ?_
  have hpu := pu_may hR (xs (6 * j + 1)) (xs (6 * j + 2)) (xs (6 * j + 3)) (xs (6 * j + 4))
  have hPc := hP.sub (ws' := (wX ad cI cZ zx vx fx)) [0, 1, 2, 3, 4, 5, 6, 7, 8, 9, 10, 11, 12, 13, 14, 15, 16, 17, 18, 19, 20, 21] rfl
  have hM1 := c_X4_may l dC dI ad cI cZ zx vx fx (xs (6 * j + 1)) (xs (6 * j + 2)) (xs (6 * j + 3)) (xs (6 * j + 4)) hokX
  generalize F_X4_may zx vx fx (xs (6 * j + 1)) (xs (6 * j + 2)) (xs (6 * j + 3)) (xs (6 * j + 4)) = FX at hpu hM1
  refine vp_callSi (W.runV (As := [.int (xs (6 * j + 1)), .int (xs (6 * j + 2)), .int (xs (6 * j + 3)), .int (xs (6 * j + 4))]) (rest := []) ⟨hx, hb, hml, hown, hts⟩ hM1 (cwV 4 hts gL_law_X4_may rfl rfl rfl (by decide +kernel) ⟨Nat.le_of_ble_eq_true rfl, Nat.le_of_ble_eq_true rfl⟩) (preX (ci := 4) (q0 := 0) hPc hKc hN rfl rfl rfl) rfl rfl hl.1 rfl (lv_room (Nat.le_of_ble_eq_true rfl)) dL_law_735 ⟨by show 41 + j + 0 ≤ 1080; omega, by show 1610 + 6 * j + 0 ≤ 9892; omega⟩) (fun r5 h9 => ?_)
  have hr5 : r5 = FX := h9
  refine lv_aload_n hx hb dL_law_738 rfl (lv_at hl 2 rfl) ?_
  refine lv_aload_n hx hb dL_law_739 rfl (lv_at hl 0 rfl) ?_
  refine lv_iload hx hb dL_law_740 (lv_at hl 4 rfl) ?_
  refine lv_iconst (v := 1) hx hb dL_law_742 (by decide) ?_
  refine lv_iadd hx hb dL_law_743 ?_
  refine xe_top (nI_add (6 * j) 1) ?_
  refine xs_ld hx hb hX hbl hbA hS (k := 6 * j + 1) (by omega) (by omega) dL_law_744 ?_
  refine lv_aload_n hx hb dL_law_745 rfl (lv_at hl 0 rfl) ?_
  refine lv_iload hx hb dL_law_746 (lv_at hl 4 rfl) ?_
  refine lv_iconst (v := 2) hx hb dL_law_748 (by decide) ?_
  refine lv_iadd hx hb dL_law_749 ?_
  refine xe_top (nI_add (6 * j) 2) ?_
  refine xs_ld hx hb hX hbl hbA hS (k := 6 * j + 2) (by omega) (by omega) dL_law_750 ?_
  refine lv_aload_n hx hb dL_law_751 rfl (lv_at hl 0 rfl) ?_
  refine lv_iload hx hb dL_law_752 (lv_at hl 4 rfl) ?_
  refine lv_iconst (v := 3) hx hb dL_law_754 (by decide) ?_
  refine lv_iadd hx hb dL_law_755 ?_
  refine xe_top (nI_add (6 * j) 3) ?_
  refine xs_ld hx hb hX hbl hbA hS (k := 6 * j + 3) (by omega) (by omega) dL_law_756 ?_
  refine lv_aload_n hx hb dL_law_757 rfl (lv_at hl 0 rfl) ?_
  refine lv_iload hx hb dL_law_758 (lv_at hl 4 rfl) ?_
  refine lv_iconst (v := 4) hx hb dL_law_760 (by decide) ?_
  refine lv_iadd hx hb dL_law_761 ?_
  refine xe_top (nI_add (6 * j) 4) ?_
  refine xs_ld hx hb hX hbl hbA hS (k := 6 * j + 4) (by omega) (by omega) dL_law_762 ?_
  have hM2 := c_X5_may l dC dI am cI cZ th zm vm fm H.size (xs (6 * j + 1)) (xs (6 * j + 2)) (xs (6 * j + 3)) (xs (6 * j + 4)) hokM
  generalize F_X5_may zm vm fm (xs (6 * j + 1)) (xs (6 * j + 2)) (xs (6 * j + 3)) (xs (6 * j + 4)) = FM at hpu hM2
  have hPc := hP.sub (ws' := (wM am cI cZ th zm vm fm)) [22, 23, 24, 25, 26, 27, 28, 29, 30, 31, 32, 33, 34, 35, 36, 37, 38, 39] rfl
  have hDc := hD.sub (ws' := (wM am cI cZ th zm vm fm)) [22, 23, 24, 25, 26, 27, 28, 29, 30, 31, 32, 33, 34, 35, 36, 37, 38, 39] (by decide) rfl
  have hFc := va_free (wc := (wM am cI cZ th zm vm fm)) hD hS hA [22, 23, 24, 25, 26, 27, 28, 29, 30, 31, 32, 33, 34, 35, 36, 37, 38, 39] rfl
  refine va_calli (va_runV (As := [.int (xs (6 * j + 1)), .int (xs (6 * j + 2)), .int (xs (6 * j + 3)), .int (xs (6 * j + 4))]) (rest := [.int r5]) ⟨hx, hb, hml, hown, hts⟩ hM2 (cwV 4 hts gL_law_X5_may rfl rfl rfl (by decide +kernel) ⟨Nat.le_of_ble_eq_true rfl, Nat.le_of_ble_eq_true rfl⟩) (preMw (ci := 5) (q0 := 0) hPc hKc hN hDc rfl rfl rfl) rfl rfl hl.1 rfl (lv_room (Nat.le_of_ble_eq_true rfl)) dL_law_763 ⟨by show 41 + j + 0 ≤ 1080; omega, by show 1610 + 6 * j + 0 ≤ 9892; omega⟩) hS (fun q _ h => hFc q h) hFc (fun r6 u9 t9 H1 locs ht hvm hw6 hB hz1 hk1 hS => ?_)
  have hr6 : r6 = FM.1 := hw6
  have hP1 : va_P (dC, dI) vwCl _ t9.heap := hB
  rw [ht] at hP1
  obtain ⟨hP, hD⟩ := va_join (wr := wX ad cI cZ zx vx fx ++ [(o, .inl (cJ, 1, .inr (.inl g)))]) (w1 := (wM am cI cZ FM.2.1 FM.2.2.1 FM.2.2.2.1 FM.2.2.2.2)) hP hD [22, 23, 24, 25, 26, 27, 28, 29, 30, 31, 32, 33, 34, 35, 36, 37, 38, 39] [0, 1, 2, 3, 4, 5, 6, 7, 8, 9, 10, 11, 12, 13, 14, 15, 16, 17, 18, 19, 20, 21, 40] rfl rfl (by decide) (by decide) hk1 hFc hP1 (va_D.fst (ws := (wM am cI cZ th zm vm fm)) rfl (hDc.self (sz := H.size)))
  generalize H1 = H at hP hS ⊢
  have hP : va_P (dC, dI) vwCl (wL ad am cI cZ cJ o zx vx fx FM.2.1 FM.2.2.1 FM.2.2.2.1 FM.2.2.2.2 g) H := hP.sub [0, 1, 2, 3, 4, 5, 6, 7, 8, 9, 10, 11, 12, 13, 14, 15, 16, 17, 18, 19, 20, 21, 23, 24, 25, 26, 27, 28, 29, 30, 31, 32, 33, 34, 35, 36, 37, 38, 39, 40, 22] rfl
  have hD : va_D (fun q : Nat => s.heap.size ≤ q) (wL ad am cI cZ cJ o zx vx fx FM.2.1 FM.2.2.1 FM.2.2.2.1 FM.2.2.2.2 g) := hD.sub [0, 1, 2, 3, 4, 5, 6, 7, 8, 9, 10, 11, 12, 13, 14, 15, 16, 17, 18, 19, 20, 21, 23, 24, 25, 26, 27, 28, 29, 30, 31, 32, 33, 34, 35, 36, 37, 38, 39, 40, 22] (by decide) rfl
  have hR2 := hpu.2
  refine lv_icmp_eq (tgt := 1108) hx hb dL_law_766 (by decide) (fun _ => ?_) (fun h9 => absurd (by rw [hr5, hr6]; exact hpu.1) h9)
  refine W.widen (k := 41 + j + 1) (n := 1610 + 6 * j + 6) (by omega) (by omega) ?_
  exact hk zx vx fx FM.2.1 FM.2.2.1 FM.2.2.2.1 FM.2.2.2.2 g H locs ls hR2 hP hD hS (lv_sub hl [0, 1, 2, 3, 4] rfl)
set_option maxHeartbeats 4000000 in
set_option maxRecDepth 100000 in
theorem law_two {p : Program} {l : Launch} {e : Env} {s : State} {m : MethodId} {below : List Frame} {meth : Method} {c : Code} {dC : Nat → ClassId} {dI : Nat → Nat → Nat} {ad am : Nat → Nat} {cI cZ cJ : ClassId} {o b L : Nat} {xs : Nat → Int32} (hL : L ≤ 3072) (C0 : lw_At p s m meth c b L xs) (hlt : l.stackTraces = false) (hK : va_K (dC, dI) vwCl (cL3 cI cZ cJ) s) (hN : nW s) (hT : tW (fun q : Nat => s.heap.size ≤ q) s) (hC : cW s) (j : Nat) (hj : 6 * j + 6 ≤ L) :
    ∀ (zx : Nat → Nat) (vx : Nat → Int32) (fx : Nat → Nat → Int32) (th : Int32) (zm : Nat → Nat) (vm : Nat → Int32) (fm : Nat → Nat → Int32) (g : Nat → Int64) (H : Heap) (locs : List Loc) (ls : Array Slot), REL zx vx fx zm vm fm → va_P (dC, dI) vwCl (wL ad am cI cZ cJ o zx vx fx th zm vm fm g) H → va_D (fun q : Nat => s.heap.size ≤ q) (wL ad am cI cZ cJ o zx vx fx th zm vm fm g) → va_S (fun q : Nat => s.heap.size ≤ q) s.heap H locs → lv_has ls 7 [(0, .ref b), (1, .ref (ad 0)), (2, .ref (am 0)), (3, .ref o), (4, .int (nI (6 * j)))] → (∀ (zx : Nat → Nat) (vx : Nat → Int32) (fx : Nat → Nat → Int32) (th : Int32) (zm : Nat → Nat) (vm : Nat → Int32) (fm : Nat → Nat → Int32) (g : Nat → Int64) (H : Heap) (locs : List Loc) (ls : Array Slot), REL zx vx fx zm vm fm → va_P (dC, dI) vwCl (wL ad am cI cZ cJ o zx vx fx th zm vm fm g) H → va_D (fun q : Nat => s.heap.size ≤ q) (wL ad am cI cZ cJ o zx vx fx th zm vm fm g) → va_S (fun q : Nat => s.heap.size ≤ q) s.heap H locs → lv_has ls 7 [(0, .ref b), (1, .ref (ad 0)), (2, .ref (am 0)), (3, .ref o), (4, .int (nI (6 * j)))] → W p l e room_1 s m #[Value.ref b] below meth c H locs (41 + j + 1) (1610 + 6 * j + 6) (lw_Z below #[Value.ref b] s) (F0 m 1108 ls [])) → W p l e room_1 s m #[Value.ref b] below meth c H locs (41 + j) (1610 + 6 * j) (lw_Z below #[Value.ref b] s) (F0 m 771 ls []) := by
  obtain ⟨hx, hb, hr, hml, hown, hts0, hX, hbl, hlocks, hgv⟩ := C0
  have hts := fun w h => hts0 w (wsL_law_in w h)
  have hA : ∀ q : Nat, s.heap.size ≤ q → (fun q : Nat => s.heap.size ≤ q) q := fun _ h => h
  have hbA : ¬ (fun q : Nat => s.heap.size ≤ q) b := Nat.not_le.mpr hbl
  have hKc := hK.sub (tys' := [(cI, .int), (cZ, .boolean)]) [0, 1] rfl
  intro zx vx fx th zm vm fm g H locs ls hR hP hD hS hl hk
  have hokX := hR.1
  have hokM := hR.2.1
  refine lv_aload_n hx hb dL_law_771 rfl (lv_at hl 1 rfl) ?_
  refine lv_aload_n hx hb dL_law_772 rfl (lv_at hl 0 rfl) ?_
  refine lv_iload hx hb dL_law_773 (lv_at hl 4 rfl) ?_
  refine lv_iconst (v := 1) hx hb dL_law_775 (by decide) ?_
  refine lv_iadd hx hb dL_law_776 ?_
  refine xe_top (nI_add (6 * j) 1) ?_
  refine xs_ld hx hb hX hbl hbA hS (k := 6 * j + 1) (by omega) (by omega) dL_law_777 ?_
  refine lv_aload_n hx hb dL_law_778 rfl (lv_at hl 0 rfl) ?_
  refine lv_iload hx hb dL_law_779 (lv_at hl 4 rfl) ?_
  refine lv_iconst (v := 2) hx hb dL_law_781 (by decide) ?_
  refine lv_iadd hx hb dL_law_782 ?_
  refine xe_top (nI_add (6 * j) 2) ?_
  refine xs_ld hx hb hX hbl hbA hS (k := 6 * j + 2) (by omega) (by omega) dL_law_783 ?_
  refine lv_if_eq (tgt := 791) hx hb dL_law_784 (by decide) (fun cz => ?_) (fun cz => ?_)
  · refine lv_iconst (v := 0) hx hb dL_law_791 (by decide) ?_
    have hpu := pu_two hR (xs (6 * j + 1)) 0 zB_0
    have hPc := hP.sub (ws' := (wX ad cI cZ zx vx fx)) [0, 1, 2, 3, 4, 5, 6, 7, 8, 9, 10, 11, 12, 13, 14, 15, 16, 17, 18, 19, 20, 21] rfl
    have hM1 := c_X4_two l dC dI ad cI cZ zx vx fx H.size (xs (6 * j + 1)) 0 hokX
    generalize F_X4_two zx vx fx (xs (6 * j + 1)) 0 = FX at hpu hM1
    have hDc := hD.sub (ws' := (wX ad cI cZ zx vx fx)) [0, 1, 2, 3, 4, 5, 6, 7, 8, 9, 10, 11, 12, 13, 14, 15, 16, 17, 18, 19, 20, 21] (by decide) rfl
    have hFc := va_free (wc := (wX ad cI cZ zx vx fx)) hD hS hA [0, 1, 2, 3, 4, 5, 6, 7, 8, 9, 10, 11, 12, 13, 14, 15, 16, 17, 18, 19, 20, 21] rfl
    refine va_calli (va_runV (As := [.int (xs (6 * j + 1)), .int 0]) (rest := []) ⟨hx, hb, hml, hown, hts⟩ hM1 (cwV 2 hts gL_law_X4_two rfl rfl rfl (by decide +kernel) ⟨Nat.le_of_ble_eq_true rfl, Nat.le_of_ble_eq_true rfl⟩) (preXw (ci := 4) (q0 := 0) hPc hKc hN hDc rfl rfl rfl) rfl rfl hl.1 rfl (lv_room (Nat.le_of_ble_eq_true rfl)) dL_law_792 ⟨by show 41 + j + 0 ≤ 1080; omega, by show 1610 + 6 * j + 0 ≤ 9892; omega⟩) hS (fun q _ h => hFc q h) hFc (fun r5 u9 t9 H1 locs ht hvm hw hB hz1 hk1 hS => ?_)
    have hr5 : r5 = FX.1 := hw
    have hP1 : va_P (dC, dI) vwCl _ t9.heap := hB
    rw [ht] at hP1
    obtain ⟨hP, hD⟩ := va_join (wr := wM am cI cZ th zm vm fm ++ [(o, .inl (cJ, 1, .inr (.inl g)))]) (w1 := (wX ad cI cZ FX.2.1 FX.2.2.1 FX.2.2.2)) hP hD [0, 1, 2, 3, 4, 5, 6, 7, 8, 9, 10, 11, 12, 13, 14, 15, 16, 17, 18, 19, 20, 21] [22, 23, 24, 25, 26, 27, 28, 29, 30, 31, 32, 33, 34, 35, 36, 37, 38, 39, 40] rfl rfl (by decide) (by decide) hk1 hFc hP1 (va_D.fst (ws := (wX ad cI cZ zx vx fx)) rfl (hDc.self (sz := H.size)))
    generalize H1 = H at hP hS ⊢
    have hP : va_P (dC, dI) vwCl (wL ad am cI cZ cJ o FX.2.1 FX.2.2.1 FX.2.2.2 th zm vm fm g) H := hP.sub [19, 20, 21, 22, 23, 24, 25, 26, 27, 28, 29, 30, 31, 32, 33, 34, 35, 36, 37, 38, 39, 40, 0, 1, 2, 3, 4, 5, 6, 7, 8, 9, 10, 11, 12, 13, 14, 15, 16, 17, 18] rfl
    have hD : va_D (fun q : Nat => s.heap.size ≤ q) (wL ad am cI cZ cJ o FX.2.1 FX.2.2.1 FX.2.2.2 th zm vm fm g) := hD.sub [19, 20, 21, 22, 23, 24, 25, 26, 27, 28, 29, 30, 31, 32, 33, 34, 35, 36, 37, 38, 39, 40, 0, 1, 2, 3, 4, 5, 6, 7, 8, 9, 10, 11, 12, 13, 14, 15, 16, 17, 18] (by decide) rfl
    refine lv_aload_n hx hb dL_law_795 rfl (lv_at hl 2 rfl) ?_
    refine lv_aload_n hx hb dL_law_796 rfl (lv_at hl 0 rfl) ?_
    refine lv_iload hx hb dL_law_797 (lv_at hl 4 rfl) ?_
    refine lv_iconst (v := 1) hx hb dL_law_799 (by decide) ?_
    refine lv_iadd hx hb dL_law_800 ?_
    refine xe_top (nI_add (6 * j) 1) ?_
    refine xs_ld hx hb hX hbl hbA hS (k := 6 * j + 1) (by omega) (by omega) dL_law_801 ?_
    refine lv_aload_n hx hb dL_law_802 rfl (lv_at hl 0 rfl) ?_
    refine lv_iload hx hb dL_law_803 (lv_at hl 4 rfl) ?_
    refine lv_iconst (v := 2) hx hb dL_law_805 (by decide) ?_
    refine lv_iadd hx hb dL_law_806 ?_
    refine xe_top (nI_add (6 * j) 2) ?_
    refine xs_ld hx hb hX hbl hbA hS (k := 6 * j + 2) (by omega) (by omega) dL_law_807 ?_
    refine lv_if_eq (tgt := 815) hx hb dL_law_808 (by decide) (fun _ => ?_) (fun h9 => absurd cz h9)
    refine lv_iconst (v := 0) hx hb dL_law_815 (by decide) ?_
    have hM2 := c_X5_two l dC dI am cI cZ th zm vm fm H.size (xs (6 * j + 1)) 0 hokM
    generalize F_X5_two zm vm fm (xs (6 * j + 1)) 0 = FM at hpu hM2
    have hPc := hP.sub (ws' := (wM am cI cZ th zm vm fm)) [22, 23, 24, 25, 26, 27, 28, 29, 30, 31, 32, 33, 34, 35, 36, 37, 38, 39] rfl
    have hDc := hD.sub (ws' := (wM am cI cZ th zm vm fm)) [22, 23, 24, 25, 26, 27, 28, 29, 30, 31, 32, 33, 34, 35, 36, 37, 38, 39] (by decide) rfl
    have hFc := va_free (wc := (wM am cI cZ th zm vm fm)) hD hS hA [22, 23, 24, 25, 26, 27, 28, 29, 30, 31, 32, 33, 34, 35, 36, 37, 38, 39] rfl
    refine va_calli (va_runV (As := [.int (xs (6 * j + 1)), .int 0]) (rest := [.int r5]) ⟨hx, hb, hml, hown, hts⟩ hM2 (cwV 2 hts gL_law_X5_two rfl rfl rfl (by decide +kernel) ⟨Nat.le_of_ble_eq_true rfl, Nat.le_of_ble_eq_true rfl⟩) (preMw (ci := 5) (q0 := 0) hPc hKc hN hDc rfl rfl rfl) rfl rfl hl.1 rfl (lv_room (Nat.le_of_ble_eq_true rfl)) dL_law_816 ⟨by show 41 + j + 0 ≤ 1080; omega, by show 1610 + 6 * j + 0 ≤ 9892; omega⟩) hS (fun q _ h => hFc q h) hFc (fun r6 u9 t9 H1 locs ht hvm hw6 hB hz1 hk1 hS => ?_)
    have hr6 : r6 = FM.1 := hw6
    have hP1 : va_P (dC, dI) vwCl _ t9.heap := hB
    rw [ht] at hP1
    obtain ⟨hP, hD⟩ := va_join (wr := wX ad cI cZ FX.2.1 FX.2.2.1 FX.2.2.2 ++ [(o, .inl (cJ, 1, .inr (.inl g)))]) (w1 := (wM am cI cZ FM.2.1 FM.2.2.1 FM.2.2.2.1 FM.2.2.2.2)) hP hD [22, 23, 24, 25, 26, 27, 28, 29, 30, 31, 32, 33, 34, 35, 36, 37, 38, 39] [0, 1, 2, 3, 4, 5, 6, 7, 8, 9, 10, 11, 12, 13, 14, 15, 16, 17, 18, 19, 20, 21, 40] rfl rfl (by decide) (by decide) hk1 hFc hP1 (va_D.fst (ws := (wM am cI cZ th zm vm fm)) rfl (hDc.self (sz := H.size)))
    generalize H1 = H at hP hS ⊢
    have hP : va_P (dC, dI) vwCl (wL ad am cI cZ cJ o FX.2.1 FX.2.2.1 FX.2.2.2 FM.2.1 FM.2.2.1 FM.2.2.2.1 FM.2.2.2.2 g) H := hP.sub [0, 1, 2, 3, 4, 5, 6, 7, 8, 9, 10, 11, 12, 13, 14, 15, 16, 17, 18, 19, 20, 21, 23, 24, 25, 26, 27, 28, 29, 30, 31, 32, 33, 34, 35, 36, 37, 38, 39, 40, 22] rfl
    have hD : va_D (fun q : Nat => s.heap.size ≤ q) (wL ad am cI cZ cJ o FX.2.1 FX.2.2.1 FX.2.2.2 FM.2.1 FM.2.2.1 FM.2.2.2.1 FM.2.2.2.2 g) := hD.sub [0, 1, 2, 3, 4, 5, 6, 7, 8, 9, 10, 11, 12, 13, 14, 15, 16, 17, 18, 19, 20, 21, 23, 24, 25, 26, 27, 28, 29, 30, 31, 32, 33, 34, 35, 36, 37, 38, 39, 40, 22] (by decide) rfl
    have hR2 := hpu.2
    refine lv_icmp_eq (tgt := 1108) hx hb dL_law_819 (by decide) (fun _ => ?_) (fun h9 => absurd (by rw [hr5, hr6]; exact hpu.1) h9)
    refine W.widen (k := 41 + j + 1) (n := 1610 + 6 * j + 6) (by omega) (by omega) ?_
    exact hk FX.2.1 FX.2.2.1 FX.2.2.2 FM.2.1 FM.2.2.1 FM.2.2.2.1 FM.2.2.2.2 g H locs ls hR2 hP hD hS (lv_sub hl [0, 1, 2, 3, 4] rfl)
  · refine lv_iconst (v := 1) hx hb dL_law_787 (by decide) ?_
    refine lv_goto (tgt := 792) hx hb dL_law_788 (by decide) ?_
    have hpu := pu_two hR (xs (6 * j + 1)) 1 zB_1
    have hPc := hP.sub (ws' := (wX ad cI cZ zx vx fx)) [0, 1, 2, 3, 4, 5, 6, 7, 8, 9, 10, 11, 12, 13, 14, 15, 16, 17, 18, 19, 20, 21] rfl
    have hM1 := c_X4_two l dC dI ad cI cZ zx vx fx H.size (xs (6 * j + 1)) 1 hokX
    generalize F_X4_two zx vx fx (xs (6 * j + 1)) 1 = FX at hpu hM1
    have hDc := hD.sub (ws' := (wX ad cI cZ zx vx fx)) [0, 1, 2, 3, 4, 5, 6, 7, 8, 9, 10, 11, 12, 13, 14, 15, 16, 17, 18, 19, 20, 21] (by decide) rfl
    have hFc := va_free (wc := (wX ad cI cZ zx vx fx)) hD hS hA [0, 1, 2, 3, 4, 5, 6, 7, 8, 9, 10, 11, 12, 13, 14, 15, 16, 17, 18, 19, 20, 21] rfl
    refine va_calli (va_runV (As := [.int (xs (6 * j + 1)), .int 1]) (rest := []) ⟨hx, hb, hml, hown, hts⟩ hM1 (cwV 2 hts gL_law_X4_two rfl rfl rfl (by decide +kernel) ⟨Nat.le_of_ble_eq_true rfl, Nat.le_of_ble_eq_true rfl⟩) (preXw (ci := 4) (q0 := 0) hPc hKc hN hDc rfl rfl rfl) rfl rfl hl.1 rfl (lv_room (Nat.le_of_ble_eq_true rfl)) dL_law_792 ⟨by show 41 + j + 0 ≤ 1080; omega, by show 1610 + 6 * j + 0 ≤ 9892; omega⟩) hS (fun q _ h => hFc q h) hFc (fun r5 u9 t9 H1 locs ht hvm hw hB hz1 hk1 hS => ?_)
    have hr5 : r5 = FX.1 := hw
    have hP1 : va_P (dC, dI) vwCl _ t9.heap := hB
    rw [ht] at hP1
    obtain ⟨hP, hD⟩ := va_join (wr := wM am cI cZ th zm vm fm ++ [(o, .inl (cJ, 1, .inr (.inl g)))]) (w1 := (wX ad cI cZ FX.2.1 FX.2.2.1 FX.2.2.2)) hP hD [0, 1, 2, 3, 4, 5, 6, 7, 8, 9, 10, 11, 12, 13, 14, 15, 16, 17, 18, 19, 20, 21] [22, 23, 24, 25, 26, 27, 28, 29, 30, 31, 32, 33, 34, 35, 36, 37, 38, 39, 40] rfl rfl (by decide) (by decide) hk1 hFc hP1 (va_D.fst (ws := (wX ad cI cZ zx vx fx)) rfl (hDc.self (sz := H.size)))
    generalize H1 = H at hP hS ⊢
    have hP : va_P (dC, dI) vwCl (wL ad am cI cZ cJ o FX.2.1 FX.2.2.1 FX.2.2.2 th zm vm fm g) H := hP.sub [19, 20, 21, 22, 23, 24, 25, 26, 27, 28, 29, 30, 31, 32, 33, 34, 35, 36, 37, 38, 39, 40, 0, 1, 2, 3, 4, 5, 6, 7, 8, 9, 10, 11, 12, 13, 14, 15, 16, 17, 18] rfl
    have hD : va_D (fun q : Nat => s.heap.size ≤ q) (wL ad am cI cZ cJ o FX.2.1 FX.2.2.1 FX.2.2.2 th zm vm fm g) := hD.sub [19, 20, 21, 22, 23, 24, 25, 26, 27, 28, 29, 30, 31, 32, 33, 34, 35, 36, 37, 38, 39, 40, 0, 1, 2, 3, 4, 5, 6, 7, 8, 9, 10, 11, 12, 13, 14, 15, 16, 17, 18] (by decide) rfl
    refine lv_aload_n hx hb dL_law_795 rfl (lv_at hl 2 rfl) ?_
    refine lv_aload_n hx hb dL_law_796 rfl (lv_at hl 0 rfl) ?_
    refine lv_iload hx hb dL_law_797 (lv_at hl 4 rfl) ?_
    refine lv_iconst (v := 1) hx hb dL_law_799 (by decide) ?_
    refine lv_iadd hx hb dL_law_800 ?_
    refine xe_top (nI_add (6 * j) 1) ?_
    refine xs_ld hx hb hX hbl hbA hS (k := 6 * j + 1) (by omega) (by omega) dL_law_801 ?_
    refine lv_aload_n hx hb dL_law_802 rfl (lv_at hl 0 rfl) ?_
    refine lv_iload hx hb dL_law_803 (lv_at hl 4 rfl) ?_
    refine lv_iconst (v := 2) hx hb dL_law_805 (by decide) ?_
    refine lv_iadd hx hb dL_law_806 ?_
    refine xe_top (nI_add (6 * j) 2) ?_
    refine xs_ld hx hb hX hbl hbA hS (k := 6 * j + 2) (by omega) (by omega) dL_law_807 ?_
    refine lv_if_eq (tgt := 815) hx hb dL_law_808 (by decide) (fun h9 => absurd h9 cz) (fun _ => ?_)
    refine lv_iconst (v := 1) hx hb dL_law_811 (by decide) ?_
    refine lv_goto (tgt := 816) hx hb dL_law_812 (by decide) ?_
    have hM2 := c_X5_two l dC dI am cI cZ th zm vm fm H.size (xs (6 * j + 1)) 1 hokM
    generalize F_X5_two zm vm fm (xs (6 * j + 1)) 1 = FM at hpu hM2
    have hPc := hP.sub (ws' := (wM am cI cZ th zm vm fm)) [22, 23, 24, 25, 26, 27, 28, 29, 30, 31, 32, 33, 34, 35, 36, 37, 38, 39] rfl
    have hDc := hD.sub (ws' := (wM am cI cZ th zm vm fm)) [22, 23, 24, 25, 26, 27, 28, 29, 30, 31, 32, 33, 34, 35, 36, 37, 38, 39] (by decide) rfl
    have hFc := va_free (wc := (wM am cI cZ th zm vm fm)) hD hS hA [22, 23, 24, 25, 26, 27, 28, 29, 30, 31, 32, 33, 34, 35, 36, 37, 38, 39] rfl
    refine va_calli (va_runV (As := [.int (xs (6 * j + 1)), .int 1]) (rest := [.int r5]) ⟨hx, hb, hml, hown, hts⟩ hM2 (cwV 2 hts gL_law_X5_two rfl rfl rfl (by decide +kernel) ⟨Nat.le_of_ble_eq_true rfl, Nat.le_of_ble_eq_true rfl⟩) (preMw (ci := 5) (q0 := 0) hPc hKc hN hDc rfl rfl rfl) rfl rfl hl.1 rfl (lv_room (Nat.le_of_ble_eq_true rfl)) dL_law_816 ⟨by show 41 + j + 0 ≤ 1080; omega, by show 1610 + 6 * j + 0 ≤ 9892; omega⟩) hS (fun q _ h => hFc q h) hFc (fun r6 u9 t9 H1 locs ht hvm hw6 hB hz1 hk1 hS => ?_)
    have hr6 : r6 = FM.1 := hw6
    have hP1 : va_P (dC, dI) vwCl _ t9.heap := hB
    rw [ht] at hP1
    obtain ⟨hP, hD⟩ := va_join (wr := wX ad cI cZ FX.2.1 FX.2.2.1 FX.2.2.2 ++ [(o, .inl (cJ, 1, .inr (.inl g)))]) (w1 := (wM am cI cZ FM.2.1 FM.2.2.1 FM.2.2.2.1 FM.2.2.2.2)) hP hD [22, 23, 24, 25, 26, 27, 28, 29, 30, 31, 32, 33, 34, 35, 36, 37, 38, 39] [0, 1, 2, 3, 4, 5, 6, 7, 8, 9, 10, 11, 12, 13, 14, 15, 16, 17, 18, 19, 20, 21, 40] rfl rfl (by decide) (by decide) hk1 hFc hP1 (va_D.fst (ws := (wM am cI cZ th zm vm fm)) rfl (hDc.self (sz := H.size)))
    generalize H1 = H at hP hS ⊢
    have hP : va_P (dC, dI) vwCl (wL ad am cI cZ cJ o FX.2.1 FX.2.2.1 FX.2.2.2 FM.2.1 FM.2.2.1 FM.2.2.2.1 FM.2.2.2.2 g) H := hP.sub [0, 1, 2, 3, 4, 5, 6, 7, 8, 9, 10, 11, 12, 13, 14, 15, 16, 17, 18, 19, 20, 21, 23, 24, 25, 26, 27, 28, 29, 30, 31, 32, 33, 34, 35, 36, 37, 38, 39, 40, 22] rfl
    have hD : va_D (fun q : Nat => s.heap.size ≤ q) (wL ad am cI cZ cJ o FX.2.1 FX.2.2.1 FX.2.2.2 FM.2.1 FM.2.2.1 FM.2.2.2.1 FM.2.2.2.2 g) := hD.sub [0, 1, 2, 3, 4, 5, 6, 7, 8, 9, 10, 11, 12, 13, 14, 15, 16, 17, 18, 19, 20, 21, 23, 24, 25, 26, 27, 28, 29, 30, 31, 32, 33, 34, 35, 36, 37, 38, 39, 40, 22] (by decide) rfl
    have hR2 := hpu.2
    refine lv_icmp_eq (tgt := 1108) hx hb dL_law_819 (by decide) (fun _ => ?_) (fun h9 => absurd (by rw [hr5, hr6]; exact hpu.1) h9)
    refine W.widen (k := 41 + j + 1) (n := 1610 + 6 * j + 6) (by omega) (by omega) ?_
    exact hk FX.2.1 FX.2.2.1 FX.2.2.2 FM.2.1 FM.2.2.1 FM.2.2.2.1 FM.2.2.2.2 g H locs ls hR2 hP hD hS (lv_sub hl [0, 1, 2, 3, 4] rfl)
