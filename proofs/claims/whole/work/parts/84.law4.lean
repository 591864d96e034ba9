set_option maxHeartbeats 4000000 in
set_option maxRecDepth 100000 in
theorem law_done {p : Program} {l : Launch} {e : Env} {s : State} {m : MethodId} {below : List Frame} {meth : Method} {c : Code} {dC : Nat → ClassId} {dI : Nat → Nat → Nat} {ad am : Nat → Nat} {cI cZ cJ : ClassId} {o b L : Nat} {xs : Nat → Int32} (hL : L ≤ 3072) (C0 : lw_At p s m meth c b L xs) (hlt : l.stackTraces = false) (hK : va_K (dC, dI) vwCl (cL3 cI cZ cJ) s) (hN : nW s) (hT : tW (fun q : Nat => s.heap.size ≤ q) s) (hC : cW s) (j : Nat) (hj : 6 * j + 6 ≤ L) :
    ∀ (zx : Nat → Nat) (vx : Nat → Int32) (fx : Nat → Nat → Int32) (th : Int32) (zm : Nat → Nat) (vm : Nat → Int32) (fm : Nat → Nat → Int32) (g : Nat → Int64) (H : Heap) (locs : List Loc) (ls : Array Slot), REL zx vx fx zm vm fm → va_P (dC, dI) vwCl (wL ad am cI cZ cJ o zx vx fx th zm vm fm g) H → va_D (fun q : Nat => s.heap.size ≤ q) (wL ad am cI cZ cJ o zx vx fx th zm vm fm g) → va_S (fun q : Nat => s.heap.size ≤ q) s.heap H locs → lv_has ls 7 [(0, .ref b), (1, .ref (ad 0)), (2, .ref (am 0)), (3, .ref o), (4, .int (nI (6 * j)))] → (∀ (zx : Nat → Nat) (vx : Nat → Int32) (fx : Nat → Nat → Int32) (th : Int32) (zm : Nat → Nat) (vm : Nat → Int32) (fm : Nat → Nat → Int32) (g : Nat → Int64) (H : Heap) (locs : List Loc) (ls : Array Slot), REL zx vx fx zm vm fm → va_P (dC, dI) vwCl (wL ad am cI cZ cJ o zx vx fx th zm vm fm g) H → va_D (fun q : Nat => s.heap.size ≤ q) (wL ad am cI cZ cJ o zx vx fx th zm vm fm g) → va_S (fun q : Nat => s.heap.size ≤ q) s.heap H locs → lv_has ls 7 [(0, .ref b), (1, .ref (ad 0)), (2, .ref (am 0)), (3, .ref o), (4, .int (nI (6 * j)))] → W p l e room_1 s m #[Value.ref b] below meth c H locs (41 + j + 1) (1610 + 6 * j + 6) (lw_Z below #[Value.ref b] s) (F0 m 1108 ls [])) → W p l e room_1 s m #[Value.ref b] below meth c H locs (41 + j) (1610 + 6 * j) (lw_Z below #[Value.ref b] s) (F0 m 824 ls []) := by
  obtain ⟨hx, hb, hr, hml, hown, hts0, hX, hbl, hlocks, hgv⟩ := C0
  have hts := fun w h => hts0 w (wsL_law_in w h)
  have hA : ∀ q : Nat, s.heap.size ≤ q → (fun q : Nat => s.heap.size ≤ q) q := fun _ h => h
  have hbA : ¬ (fun q : Nat => s.heap.size ≤ q) b := Nat.not_le.mpr hbl
  have hKc := hK.sub (tys' := [(cI, .int), (cZ, .boolean)]) [0, 1] rfl
  intro zx vx fx th zm vm fm g H locs ls hR hP hD hS hl hk
  have hokX := hR.1
  have hokM := hR.2.1
  refine lv_aload_n hx hb dL_law_824 rfl (lv_at hl 1 rfl) ?_
  refine lv_aload_n hx hb dL_law_825 rfl (lv_at hl 0 rfl) ?_
  refine lv_iload hx hb dL_law_826 (lv_at hl 4 rfl) ?_
  refine lv_iconst (v := 1) hx hb dL_law_828 (by decide) ?_
  refine lv_iadd hx hb dL_law_829 ?_
  refine xe_top (nI_add (6 * j) 1) ?_
  refine xs_ld hx hb hX hbl hbA hS (k := 6 * j + 1) (by omega) (by omega) dL_law_830 ?_
  refine lv_aload_n hx hb dL_law_831 rfl (lv_at hl 0 rfl) ?_
  refine lv_iload hx hb dL_law_832 (lv_at hl 4 rfl) ?_
  refine lv_iconst (v := 2) hx hb dL_law_834 (by decide) ?_
  refine lv_iadd hx hb dL_law_835 ?_
  refine xe_top (nI_add (6 * j) 2) ?_
  refine xs_ld hx hb hX hbl hbA hS (k := 6 * j + 2) (by omega) (by omega) dL_law_836 ?_
  refine lv_aload_n hx hb dL_law_837 rfl (lv_at hl 0 rfl) ?_
  refine lv_iload hx hb dL_law_838 (lv_at hl 4 rfl) ?_
  refine lv_iconst (v := 3) hx hb dL_law_840 (by decide) ?_
  refine lv_iadd hx hb dL_law_841 ?_
  refine xe_top (nI_add (6 * j) 3) ?_
  refine xs_ld hx hb hX hbl hbA hS (k := 6 * j + 3) (by omega) (by omega) dL_law_842 ?_
  refine lv_aload_n hx hb dL_law_843 rfl (lv_at hl 0 rfl) ?_
  refine lv_iload hx hb dL_law_844 (lv_at hl 4 rfl) ?_
  refine lv_iconst (v := 4) hx hb dL_law_846 (by decide) ?_
  refine lv_iadd hx hb dL_law_847 ?_
  refine xe_top (nI_add (6 * j) 4) ?_
  refine xs_ld hx hb hX hbl hbA hS (k := 6 * j + 4) (by omega) (by omega) dL_law_848 ?_
  refine lv_aload_n hx hb dL_law_849 rfl (lv_at hl 0 rfl) ?_
  refine lv_iload hx hb dL_law_850 (lv_at hl 4 rfl) ?_
  refine lv_iconst (v := 5) hx hb dL_law_852 (by decide) ?_
  refine lv_iadd hx hb dL_law_853 ?_
  refine xe_top (nI_add (6 * j) 5) ?_
  refine xs_ld hx hb hX hbl hbA hS (k := 6 * j + 5) (by omega) (by omega) dL_law_854 ?_
  have hpu := pu_done hR (xs (6 * j + 1)) (xs (6 * j + 2)) (xs (6 * j + 3)) (xs (6 * j + 4)) (xs (6 * j + 5))
  have hPc := hP.sub (ws' := (wX ad cI cZ zx vx fx)) [0, 1, 2, 3, 4, 5, 6, 7, 8, 9, 10, 11, 12, 13, 14, 15, 16, 17, 18, 19, 20, 21] rfl
  have hM1 := c_X4_done l dC dI ad cI cZ zx vx fx (xs (6 * j + 1)) (xs (6 * j + 2)) (xs (6 * j + 3)) (xs (6 * j + 4)) (xs (6 * j + 5)) hokX
  generalize F_X4_done zx vx fx (xs (6 * j + 1)) (xs (6 * j + 2)) (xs (6 * j + 3)) (xs (6 * j + 4)) (xs (6 * j + 5)) = FX at hpu hM1
  refine vp_callSi (W.runV (As := [.int (xs (6 * j + 1)), .int (xs (6 * j + 2)), .int (xs (6 * j + 3)), .int (xs (6 * j + 4)), .int (xs (6 * j + 5))]) (rest := []) ⟨hx, hb, hml, hown, hts⟩ hM1 (cwV 5 hts gL_law_X4_done rfl rfl rfl (by decide +kernel) ⟨Nat.le_of_ble_eq_true rfl, Nat.le_of_ble_eq_true rfl⟩) (preX (ci := 4) (q0 := 0) hPc hKc hN rfl rfl rfl) rfl rfl hl.1 rfl (lv_room (Nat.le_of_ble_eq_true rfl)) dL_law_855 ⟨by show 41 + j + 0 ≤ 1080; omega, by show 1610 + 6 * j + 0 ≤ 9892; omega⟩) (fun r5 h9 => ?_)
  have hr5 : r5 = FX := h9
  refine lv_aload_n hx hb dL_law_858 rfl (lv_at hl 2 rfl) ?_
  refine lv_aload_n hx hb dL_law_859 rfl (lv_at hl 0 rfl) ?_
  refine lv_iload hx hb dL_law_860 (lv_at hl 4 rfl) ?_
  refine lv_iconst (v := 1) hx hb dL_law_862 (by decide) ?_
  refine lv_iadd hx hb dL_law_863 ?_
  refine xe_top (nI_add (6 * j) 1) ?_
  refine xs_ld hx hb hX hbl hbA hS (k := 6 * j + 1) (by omega) (by omega) dL_law_864 ?_
  refine lv_aload_n hx hb dL_law_865 rfl (lv_at hl 0 rfl) ?_
  refine lv_iload hx hb dL_law_866 (lv_at hl 4 rfl) ?_
  refine lv_iconst (v := 2) hx hb dL_law_868 (by decide) ?_
  refine lv_iadd hx hb dL_law_869 ?_
  refine xe_top (nI_add (6 * j) 2) ?_
  refine xs_ld hx hb hX hbl hbA hS (k := 6 * j + 2) (by omega) (by omega) dL_law_870 ?_
  refine lv_aload_n hx hb dL_law_871 rfl (lv_at hl 0 rfl) ?_
  refine lv_iload hx hb dL_law_872 (lv_at hl 4 rfl) ?_
  refine lv_iconst (v := 3) hx hb dL_law_874 (by decide) ?_
  refine lv_iadd hx hb dL_law_875 ?_
  refine xe_top (nI_add (6 * j) 3) ?_
  refine xs_ld hx hb hX hbl hbA hS (k := 6 * j + 3) (by omega) (by omega) dL_law_876 ?_
  refine lv_aload_n hx hb dL_law_877 rfl (lv_at hl 0 rfl) ?_
  refine lv_iload hx hb dL_law_878 (lv_at hl 4 rfl) ?_
  refine lv_iconst (v := 4) hx hb dL_law_880 (by decide) ?_
  refine lv_iadd hx hb dL_law_881 ?_
  refine xe_top (nI_add (6 * j) 4) ?_
  refine xs_ld hx hb hX hbl hbA hS (k := 6 * j + 4) (by omega) (by omega) dL_law_882 ?_
  refine lv_aload_n hx hb dL_law_883 rfl (lv_at hl 0 rfl) ?_
  refine lv_iload hx hb dL_law_884 (lv_at hl 4 rfl) ?_
  refine lv_iconst (v := 5) hx hb dL_law_886 (by decide) ?_
  refine lv_iadd hx hb dL_law_887 ?_
  refine xe_top (nI_add (6 * j) 5) ?_
  refine xs_ld hx hb hX hbl hbA hS (k := 6 * j + 5) (by omega) (by omega) dL_law_888 ?_
  have hM2 := c_X5_done l dC dI am cI cZ th zm vm fm H.size (xs (6 * j + 1)) (xs (6 * j + 2)) (xs (6 * j + 3)) (xs (6 * j + 4)) (xs (6 * j + 5)) hokM
  generalize F_X5_done zm vm fm (xs (6 * j + 1)) (xs (6 * j + 2)) (xs (6 * j + 3)) (xs (6 * j + 4)) (xs (6 * j + 5)) = FM at hpu hM2
  have hPc := hP.sub (ws' := (wM am cI cZ th zm vm fm)) [22, 23, 24, 25, 26, 27, 28, 29, 30, 31, 32, 33, 34, 35, 36, 37, 38, 39] rfl
  have hDc := hD.sub (ws' := (wM am cI cZ th zm vm fm)) [22, 23, 24, 25, 26, 27, 28, 29, 30, 31, 32, 33, 34, 35, 36, 37, 38, 39] (by decide) rfl
  have hFc := va_free (wc := (wM am cI cZ th zm vm fm)) hD hS hA [22, 23, 24, 25, 26, 27, 28, 29, 30, 31, 32, 33, 34, 35, 36, 37, 38, 39] rfl
  refine va_calli (va_runV (As := [.int (xs (6 * j + 1)), .int (xs (6 * j + 2)), .int (xs (6 * j + 3)), .int (xs (6 * j + 4)), .int (xs (6 * j + 5))]) (rest := [.int r5]) ⟨hx, hb, hml, hown, hts⟩ hM2 (cwV 5 hts gL_law_X5_done rfl rfl rfl (by decide +kernel) ⟨Nat.le_of_ble_eq_true rfl, Nat.le_of_ble_eq_true rfl⟩) (preMw (ci := 5) (q0 := 0) hPc hKc hN hDc rfl rfl rfl) rfl rfl hl.1 rfl (lv_room (Nat.le_of_ble_eq_true rfl)) dL_law_889 ⟨by show 41 + j + 0 ≤ 1080; omega, by show 1610 + 6 * j + 0 ≤ 9892; omega⟩) hS (fun q _ h => hFc q h) hFc (fun r6 u9 t9 H1 locs ht hvm hw6 hB hz1 hk1 hS => ?_)
  have hr6 : r6 = FM.1 := hw6
  have hP1 : va_P (dC, dI) vwCl _ t9.heap := hB
  rw [ht] at hP1
  obtain ⟨hP, hD⟩ := va_join (wr := wX ad cI cZ zx vx fx ++ [(o, .inl (cJ, 1, .inr (.inl g)))]) (w1 := (wM am cI cZ FM.2.1 FM.2.2.1 FM.2.2.2.1 FM.2.2.2.2)) hP hD [22, 23, 24, 25, 26, 27, 28, 29, 30, 31, 32, 33, 34, 35, 36, 37, 38, 39] [0, 1, 2, 3, 4, 5, 6, 7, 8, 9, 10, 11, 12, 13, 14, 15, 16, 17, 18, 19, 20, 21, 40] rfl rfl (by decide) (by decide) hk1 hFc hP1 (va_D.fst (ws := (wM am cI cZ th zm vm fm)) rfl (hDc.self (sz := H.size)))
  generalize H1 = H at hP hS ⊢
  have hP : va_P (dC, dI) vwCl (wL ad am cI cZ cJ o zx vx fx FM.2.1 FM.2.2.1 FM.2.2.2.1 FM.2.2.2.2 g) H := hP.sub [0, 1, 2, 3, 4, 5, 6, 7, 8, 9, 10, 11, 12, 13, 14, 15, 16, 17, 18, 19, 20, 21, 23, 24, 25, 26, 27, 28, 29, 30, 31, 32, 33, 34, 35, 36, 37, 38, 39, 40, 22] rfl
  have hD : va_D (fun q : Nat => s.heap.size ≤ q) (wL ad am cI cZ cJ o zx vx fx FM.2.1 FM.2.2.1 FM.2.2.2.1 FM.2.2.2.2 g) := hD.sub [0, 1, 2, 3, 4, 5, 6, 7, 8, 9, 10, 11, 12, 13, 14, 15, 16, 17, 18, 19, 20, 21, 23, 24, 25, 26, 27, 28, 29, 30, 31, 32, 33, 34, 35, 36, 37, 38, 39, 40, 22] (by decide) rfl
  have hR2 := hpu.2
  refine lv_icmp_eq (tgt := 1108) hx hb dL_law_892 (by decide) (fun _ => ?_) (fun h9 => absurd (by rw [hr5, hr6]; exact hpu.1) h9)
  refine W.widen (k := 41 + j + 1) (n := 1610 + 6 * j + 6) (by omega) (by omega) ?_
  exact hk zx vx fx FM.2.1 FM.2.2.1 FM.2.2.2.1 FM.2.2.2.2 g H locs ls hR2 hP hD hS (lv_sub hl [0, 1, 2, 3, 4] rfl)
set_option maxHeartbeats 4000000 in
set_option maxRecDepth 100000 in
theorem law_letter {p : Program} {l : Launch} {e : Env} {s : State} {m : MethodId} {below : List Frame} {meth : Method} {c : Code} {dC : Nat → ClassId} {dI : Nat → Nat → Nat} {ad am : Nat → Nat} {cI cZ cJ : ClassId} {o b L : Nat} {xs : Nat → Int32} (hL : L ≤ 3072) (C0 : lw_At p s m meth c b L xs) (hlt : l.stackTraces = false) (hK : va_K (dC, dI) vwCl (cL3 cI cZ cJ) s) (hN : nW s) (hT : tW (fun q : Nat => s.heap.size ≤ q) s) (hC : cW s) (j : Nat) (hj : 6 * j + 6 ≤ L) :
    ∀ (zx : Nat → Nat) (vx : Nat → Int32) (fx : Nat → Nat → Int32) (th : Int32) (zm : Nat → Nat) (vm : Nat → Int32) (fm : Nat → Nat → Int32) (g : Nat → Int64) (H : Heap) (locs : List Loc) (ls : Array Slot), REL zx vx fx zm vm fm → va_P (dC, dI) vwCl (wL ad am cI cZ cJ o zx vx fx th zm vm fm g) H → va_D (fun q : Nat => s.heap.size ≤ q) (wL ad am cI cZ cJ o zx vx fx th zm vm fm g) → va_S (fun q : Nat => s.heap.size ≤ q) s.heap H locs → lv_has ls 7 [(0, .ref b), (1, .ref (ad 0)), (2, .ref (am 0)), (3, .ref o), (4, .int (nI (6 * j)))] → (∀ (zx : Nat → Nat) (vx : Nat → Int32) (fx : Nat → Nat → Int32) (th : Int32) (zm : Nat → Nat) (vm : Nat → Int32) (fm : Nat → Nat → Int32) (g : Nat → Int64) (H : Heap) (locs : List Loc) (ls : Array Slot), REL zx vx fx zm vm fm → va_P (dC, dI) vwCl (wL ad am cI cZ cJ o zx vx fx th zm vm fm g) H → va_D (fun q : Nat => s.heap.size ≤ q) (wL ad am cI cZ cJ o zx vx fx th zm vm fm g) → va_S (fun q : Nat => s.heap.size ≤ q) s.heap H locs → lv_has ls 7 [(0, .ref b), (1, .ref (ad 0)), (2, .ref (am 0)), (3, .ref o), (4, .int (nI (6 * j)))] → W p l e room_1 s m #[Value.ref b] below meth c H locs (41 + j + 1) (1610 + 6 * j + 6) (lw_Z below #[Value.ref b] s) (F0 m 1108 ls [])) → W p l e room_1 s m #[Value.ref b] below meth c H locs (41 + j) (1610 + 6 * j) (lw_Z below #[Value.ref b] s) (F0 m 897 ls []) := by
  obtain ⟨hx, hb, hr, hml, hown, hts0, hX, hbl, hlocks, hgv⟩ := C0
  have hts := fun w h => hts0 w (wsL_law_in w h)
  have hA : ∀ q : Nat, s.heap.size ≤ q → (fun q : Nat => s.heap.size ≤ q) q := fun _ h => h
  have hbA : ¬ (fun q : Nat => s.heap.size ≤ q) b := Nat.not_le.mpr hbl
  have hKc := hK.sub (tys' := [(cI, .int), (cZ, .boolean)]) [0, 1] rfl
  intro zx vx fx th zm vm fm g H locs ls hR hP hD hS hl hk
  have hokX := hR.1
  have hokM := hR.2.1
  refine lv_aload_n hx hb dL_law_897 rfl (lv_at hl 1 rfl) ?_
  refine lv_aload_n hx hb dL_law_898 rfl (lv_at hl 0 rfl) ?_
  refine lv_iload hx hb dL_law_899 (lv_at hl 4 rfl) ?_
  refine lv_iconst (v := 1) hx hb dL_law_901 (by decide) ?_
  refine lv_iadd hx hb dL_law_902 ?_
  refine xe_top (nI_add (6 * j) 1) ?_
  refine xs_ld hx hb hX hbl hbA hS (k := 6 * j + 1) (by omega) (by omega) dL_law_903 ?_
  refine lv_aload_n hx hb dL_law_904 rfl (lv_at hl 0 rfl) ?_
  refine lv_iload hx hb dL_law_905 (lv_at hl 4 rfl) ?_
  refine lv_iconst (v := 2) hx hb dL_law_907 (by decide) ?_
  refine lv_iadd hx hb dL_law_908 ?_
  refine xe_top (nI_add (6 * j) 2) ?_
  refine xs_ld hx hb hX hbl hbA hS (k := 6 * j + 2) (by omega) (by omega) dL_law_909 ?_
  refine lv_aload_n hx hb dL_law_910 rfl (lv_at hl 3 rfl) ?_
  have hpu := pu_letter hR (xs (6 * j + 1)) (xs (6 * j + 2))
  have hkc := kc_letter zx vx fx (xs (6 * j + 1)) (xs (6 * j + 2))
  have hM1 := c_L_letter l dC dI ad cI cZ cJ zx vx fx H.size o g (xs (6 * j + 1)) (xs (6 * j + 2)) hokX hlt
  generalize F_X4_letter zx vx fx (xs (6 * j + 1)) (xs (6 * j + 2)) = FX at hpu hkc hM1
  have hPc := hP.sub (ws' := (wXo ad cI cZ cJ o zx vx fx g)) [0, 1, 2, 3, 4, 5, 6, 7, 8, 9, 10, 11, 12, 13, 14, 15, 16, 17, 18, 19, 20, 21, 40] rfl
  have hDc := hD.sub (ws' := (wXo ad cI cZ cJ o zx vx fx g)) [0, 1, 2, 3, 4, 5, 6, 7, 8, 9, 10, 11, 12, 13, 14, 15, 16, 17, 18, 19, 20, 21, 40] (by decide) rfl
  have hFc := va_free (wc := (wXo ad cI cZ cJ o zx vx fx g)) hD hS hA [0, 1, 2, 3, 4, 5, 6, 7, 8, 9, 10, 11, 12, 13, 14, 15, 16, 17, 18, 19, 20, 21, 40] rfl
  refine va_calli (vx_runSW (hh := [(0, 10, 13, 19), (0, 10, 17, 39)]) (As := [.ref (ad 0), .int (xs (6 * j + 1)), .int (xs (6 * j + 2)), .ref o]) (rest := []) ⟨hx, hb, hml, hown, hts⟩ hM1 (vx_cwSW 4 hts gL_law_L_letter rfl rfl rfl (by decide +kernel) ⟨Nat.le_of_ble_eq_true rfl, Nat.le_of_ble_eq_true rfl⟩) (preL hPc hK hN hDc hT hC hS hFc) rfl rfl hl.1 rfl (lv_room (Nat.le_of_ble_eq_true rfl)) dL_law_911 ⟨by show 41 + j + 1 ≤ 1080; omega, by show 1610 + 6 * j + 6 ≤ 9892; omega⟩) hS (fun q _ h => hFc q h) hFc (fun r5 g5 t9 H1 locs ht hvm hw hB hz1 hk1 hS => ?_)
  have hP1 : va_P (dC, dI) vwCl _ t9.heap := hB
  rw [ht] at hP1
  obtain ⟨hP, hD⟩ := va_join (wr := wM am cI cZ th zm vm fm) (w1 := (wXo ad cI cZ cJ o FX.2.2.1 FX.2.2.2.1 FX.2.2.2.2 g5)) hP hD [0, 1, 2, 3, 4, 5, 6, 7, 8, 9, 10, 11, 12, 13, 14, 15, 16, 17, 18, 19, 20, 21, 40] [22, 23, 24, 25, 26, 27, 28, 29, 30, 31, 32, 33, 34, 35, 36, 37, 38, 39] rfl rfl (by decide) (by decide) hk1 hFc hP1 (va_D.fst (ws := (wXo ad cI cZ cJ o zx vx fx g)) rfl (hDc.self (sz := H.size)))
  generalize H1 = H at hP hS ⊢
  have hP : va_P (dC, dI) vwCl (wL ad am cI cZ cJ o FX.2.2.1 FX.2.2.2.1 FX.2.2.2.2 th zm vm fm g5) H := hP.sub [18, 19, 20, 21, 22, 23, 24, 25, 26, 27, 28, 29, 30, 31, 32, 33, 34, 35, 36, 37, 38, 39, 0, 1, 2, 3, 4, 5, 6, 7, 8, 9, 10, 11, 12, 13, 14, 15, 16, 17, 40] rfl
  have hD : va_D (fun q : Nat => s.heap.size ≤ q) (wL ad am cI cZ cJ o FX.2.2.1 FX.2.2.2.1 FX.2.2.2.2 th zm vm fm g5) := hD.sub [18, 19, 20, 21, 22, 23, 24, 25, 26, 27, 28, 29, 30, 31, 32, 33, 34, 35, 36, 37, 38, 39, 0, 1, 2, 3, 4, 5, 6, 7, 8, 9, 10, 11, 12, 13, 14, 15, 16, 17, 40] (by decide) rfl
  refine lv_istore (lv' := [(5, .int r5), (0, .ref b), (1, .ref (ad 0)), (2, .ref (am 0)), (3, .ref o), (4, .int (nI (6 * j)))]) hx hb dL_law_914 hl (by decide) rfl (fun ls hl => ?_)
  refine lv_aload_n hx hb dL_law_916 rfl (lv_at hl 3 rfl) ?_
  refine lv_aload_n hx hb dL_law_917 rfl (lv_at hl 1 rfl) ?_
  refine lv_iload hx hb dL_law_918 (lv_at hl 5 rfl) ?_
  refine lv_iconst (v := 1) hx hb dL_law_920 (by decide) ?_
  refine lv_iadd hx hb dL_law_921 ?_
  refine xe_top (nI_add (6 * j) 1) ?_
  refine xs_ld hx hb hX hbl hbA hS (k := 6 * j + 1) (by omega) (by omega) dL_law_922 ?_
  refine lv_aload_n hx hb dL_law_923 rfl (lv_at hl 1 rfl) ?_
  refine lv_iload hx hb dL_law_924 (lv_at hl 5 rfl) ?_
  refine lv_iconst (v := 2) hx hb dL_law_926 (by decide) ?_
  refine lv_iadd hx hb dL_law_927 ?_
  refine xe_top (nI_add (6 * j) 2) ?_
  refine xs_ld hx hb hX hbl hbA hS (k := 6 * j + 2) (by omega) (by omega) dL_law_928 ?_
  have hM2 := c_X5_letter l dC dI am cI cZ th zm vm fm H.size (xs (6 * j + 1)) (xs (6 * j + 2)) hokM
  generalize F_X5_letter zm vm fm (xs (6 * j + 1)) (xs (6 * j + 2)) = FM at hpu hM2
  have hPc := hP.sub (ws' := (wM am cI cZ th zm vm fm)) [22, 23, 24, 25, 26, 27, 28, 29, 30, 31, 32, 33, 34, 35, 36, 37, 38, 39] rfl
  have hDc := hD.sub (ws' := (wM am cI cZ th zm vm fm)) [22, 23, 24, 25, 26, 27, 28, 29, 30, 31, 32, 33, 34, 35, 36, 37, 38, 39] (by decide) rfl
  have hFc := va_free (wc := (wM am cI cZ th zm vm fm)) hD hS hA [22, 23, 24, 25, 26, 27, 28, 29, 30, 31, 32, 33, 34, 35, 36, 37, 38, 39] rfl
  refine va_calli (va_runV (As := [.int (xs (6 * j + 1)), .int (xs (6 * j + 2))]) (rest := []) ⟨hx, hb, hml, hown, hts⟩ hM2 (cwV 2 hts gL_law_X5_letter rfl rfl rfl (by decide +kernel) ⟨Nat.le_of_ble_eq_true rfl, Nat.le_of_ble_eq_true rfl⟩) (preMw (ci := 5) (q0 := 0) hPc hKc hN hDc rfl rfl rfl) rfl rfl hl.1 rfl (lv_room (Nat.le_of_ble_eq_true rfl)) dL_law_929 ⟨by show 41 + j + 1 + 0 ≤ 1080; omega, by show 1610 + 6 * j + 6 + 0 ≤ 9892; omega⟩) hS (fun q _ h => hFc q h) hFc (fun r6 u9 t9 H1 locs ht hvm hw6 hB hz1 hk1 hS => ?_)
  have hr6 : r6 = FM.1 := hw6
  have hP1 : va_P (dC, dI) vwCl _ t9.heap := hB
  rw [ht] at hP1
  obtain ⟨hP, hD⟩ := va_join (wr := wX ad cI cZ FX.2.2.1 FX.2.2.2.1 FX.2.2.2.2 ++ [(o, .inl (cJ, 1, .inr (.inl g5)))]) (w1 := (wM am cI cZ FM.2.1 FM.2.2.1 FM.2.2.2.1 FM.2.2.2.2)) hP hD [22, 23, 24, 25, 26, 27, 28, 29, 30, 31, 32, 33, 34, 35, 36, 37, 38, 39] [0, 1, 2, 3, 4, 5, 6, 7, 8, 9, 10, 11, 12, 13, 14, 15, 16, 17, 18, 19, 20, 21, 40] rfl rfl (by decide) (by decide) hk1 hFc hP1 (va_D.fst (ws := (wM am cI cZ th zm vm fm)) rfl (hDc.self (sz := H.size)))
  generalize H1 = H at hP hS ⊢
  have hP : va_P (dC, dI) vwCl (wL ad am cI cZ cJ o FX.2.2.1 FX.2.2.2.1 FX.2.2.2.2 FM.2.1 FM.2.2.1 FM.2.2.2.1 FM.2.2.2.2 g5) H := hP.sub [0, 1, 2, 3, 4, 5, 6, 7, 8, 9, 10, 11, 12, 13, 14, 15, 16, 17, 18, 19, 20, 21, 23, 24, 25, 26, 27, 28, 29, 30, 31, 32, 33, 34, 35, 36, 37, 38, 39, 40, 22] rfl
  have hD : va_D (fun q : Nat => s.heap.size ≤ q) (wL ad am cI cZ cJ o FX.2.2.1 FX.2.2.2.1 FX.2.2.2.2 FM.2.1 FM.2.2.1 FM.2.2.2.1 FM.2.2.2.2 g5) := hD.sub [0, 1, 2, 3, 4, 5, 6, 7, 8, 9, 10, 11, 12, 13, 14, 15, 16, 17, 18, 19, 20, 21, 23, 24, 25, 26, 27, 28, 29, 30, 31, 32, 33, 34, 35, 36, 37, 38, 39, 40, 22] (by decide) rfl
  have hR2 := hpu.2.2
  refine lv_istore (lv' := [(6, .int r6), (5, .int r5), (0, .ref b), (1, .ref (ad 0)), (2, .ref (am 0)), (3, .ref o), (4, .int (nI (6 * j)))]) hx hb dL_law_932 hl (by decide) rfl (fun ls hl => ?_)
  refine lv_aload_n hx hb dL_law_934 rfl (lv_at hl 4 rfl) ?_
  have hPc := hP.sub (ws' := (wM am cI cZ FM.2.1 FM.2.2.1 FM.2.2.2.1 FM.2.2.2.2)) [22, 23, 24, 25, 26, 27, 28, 29, 30, 31, 32, 33, 34, 35, 36, 37, 38, 39] rfl
  refine vp_callSi (W.runV (As := []) (rest := []) ⟨hx, hb, hml, hown, hts⟩ (c_X5_thrown l dC dI am cI cZ FM.2.1 FM.2.2.1 FM.2.2.2.1 FM.2.2.2.2 hR2.2.1) (cwV 0 hts gL_law_X5_thrown rfl rfl rfl (by decide +kernel) ⟨Nat.le_of_ble_eq_true rfl, Nat.le_of_ble_eq_true rfl⟩) (preM (ci := 5) (q0 := 0) hPc hKc hN rfl rfl rfl) rfl rfl hl.1 rfl (lv_room (Nat.le_of_ble_eq_true rfl)) dL_law_935 ⟨by show 41 + j + 1 + 0 ≤ 1080; omega, by show 1610 + 6 * j + 6 + 0 ≤ 9892; omega⟩) (fun r7 h9 => ?_)
  have hr7 : r7 = FM.2.1 := h9
  refine lv_iload hx hb dL_law_938 (lv_at hl 1 rfl) ?_
  refine lv_icmp_eq (tgt := 945) hx hb dL_law_940 (by decide) (fun _ => ?_) (fun h9 => absurd (by rw [hr7, hw.1]; exact hpu.1) h9)
  refine lv_iload hx hb dL_law_945 (lv_at hl 1 rfl) ?_
  refine lv_if_ne (tgt := 962) hx hb dL_law_947 (by decide) (fun c5 => ?_) (fun c5 => ?_)
  · refine lv_goto (tgt := 1108) hx hb dL_law_962 (by decide) ?_
    refine W.widen (k := 41 + j + 1) (n := 1610 + 6 * j + 6) (by omega) (by omega) ?_
    exact hk FX.2.2.1 FX.2.2.2.1 FX.2.2.2.2 FM.2.1 FM.2.2.1 FM.2.2.2.1 FM.2.2.2.2 g5 H locs ls hR2 hP hD hS (lv_sub hl [2, 3, 4, 5, 6] rfl)
  · refine lv_aload_n hx hb dL_law_950 rfl (lv_at hl 5 rfl) ?_
    refine lv_iconst (v := 0) hx hb dL_law_951 (by decide) ?_
    have h0 : FX.1 = 0 := hz_letter hkc (hw.1.symm.trans c5)
    refine va_lald hx hb hK hP 40 2 rfl rfl (vp_in_nI (n := 0) (by decide) (by decide)) dL_law_952 ?_
    refine lv_iload hx hb dL_law_953 (lv_at hl 0 rfl) ?_
    refine lv_i2l hx hb dL_law_955 rfl ?_
    refine W.lcmp hx hb dL_law_956 ?_
    refine lv_if_eq (tgt := 962) hx hb dL_law_957 (by decide) (fun _ => ?_) (fun h9 => absurd (lc_eq (by rw [hr6, ← hpu.2.1 h0]; exact hw.2 h0)) h9)
    refine lv_goto (tgt := 1108) hx hb dL_law_962 (by decide) ?_
    refine W.widen (k := 41 + j + 1) (n := 1610 + 6 * j + 6) (by omega) (by omega) ?_
    exact hk FX.2.2.1 FX.2.2.2.1 FX.2.2.2.2 FM.2.1 FM.2.2.1 FM.2.2.2.1 FM.2.2.2.2 g5 H locs ls hR2 hP hD hS (lv_sub hl [2, 3, 4, 5, 6] rfl)
set_option maxHeartbeats 4000000 in
set_option maxRecDepth 100000 in
theorem law_check {p : Program} {l : Launch} {e : Env} {s : State} {m : MethodId} {below : List Frame} {meth : Method} {c : Code} {dC : Nat → ClassId} {dI : Nat → Nat → Nat} {ad am : Nat → Nat} {cI cZ cJ : ClassId} {o b L : Nat} {xs : Nat → Int32} (hL : L ≤ 3072) (C0 : lw_At p s m meth c b L xs) (hlt : l.stackTraces = false) (hK : va_K (dC, dI) vwCl (cL3 cI cZ cJ) s) (hN : nW s) (hT : tW (fun q : Nat => s.heap.size ≤ q) s) (hC : cW s) (j : Nat) (hj : 6 * j + 6 ≤ L) :
    ∀ (zx : Nat → Nat) (vx : Nat → Int32) (fx : Nat → Nat → Int32) (th : Int32) (zm : Nat → Nat) (vm : Nat → Int32) (fm : Nat → Nat → Int32) (g : Nat → Int64) (H : Heap) (locs : List Loc) (ls : Array Slot), REL zx vx fx zm vm fm → va_P (dC, dI) vwCl (wL ad am cI cZ cJ o zx vx fx th zm vm fm g) H → va_D (fun q : Nat => s.heap.size ≤ q) (wL ad am cI cZ cJ o zx vx fx th zm vm fm g) → va_S (fun q : Nat => s.heap.size ≤ q) s.heap H locs → lv_has ls 7 [(0, .ref b), (1, .ref (ad 0)), (2, .ref (am 0)), (3, .ref o), (4, .int (nI (6 * j)))] → (∀ (zx : Nat → Nat) (vx : Nat → Int32) (fx : Nat → Nat → Int32) (th : Int32) (zm : Nat → Nat) (vm : Nat → Int32) (fm : Nat → Nat → Int32) (g : Nat → Int64) (H : Heap) (locs : List Loc) (ls : Array Slot), REL zx vx fx zm vm fm → va_P (dC, dI) vwCl (wL ad am cI cZ cJ o zx vx fx th zm vm fm g) H → va_D (fun q : Nat => s.heap.size ≤ q) (wL ad am cI cZ cJ o zx vx fx th zm vm fm g) → va_S (fun q : Nat => s.heap.size ≤ q) s.heap H locs → lv_has ls 7 [(0, .ref b), (1, .ref (ad 0)), (2, .ref (am 0)), (3, .ref o), (4, .int (nI (6 * j)))] → W p l e room_1 s m #[Value.ref b] below meth c H locs (41 + j + 1) (1610 + 6 * j + 6) (lw_Z below #[Value.ref b] s) (F0 m 1108 ls [])) → W p l e room_1 s m #[Value.ref b] below meth c H locs (41 + j) (1610 + 6 * j) (lw_Z below #[Value.ref b] s) (F0 m 965 ls []) := by
  obtain ⟨hx, hb, hr, hml, hown, hts0, hX, hbl, hlocks, hgv⟩ := C0
  have hts := fun w h => hts0 w (wsL_law_in w h)
  have hA : ∀ q : Nat, s.heap.size ≤ q → (fun q : Nat => s.heap.size ≤ q) q := fun _ h => h
  have hbA : ¬ (fun q : Nat => s.heap.size ≤ q) b := Nat.not_le.mpr hbl
  have hKc := hK.sub (tys' := [(cI, .int), (cZ, .boolean)]) [0, 1] rfl
  intro zx vx fx th zm vm fm g H locs ls hR hP hD hS hl hk
  have hokX := hR.1
  have hokM := hR.2.1
  refine lv_aload_n hx hb dL_law_965 rfl (lv_at hl 1 rfl) ?_
  refine lv_aload_n hx hb dL_law_966 rfl (lv_at hl 0 rfl) ?_
  refine lv_iload hx hb dL_law_967 (lv_at hl 4 rfl) ?_
  refine lv_iconst (v := 1) hx hb dL_law_969 (by decide) ?_
  refine lv_iadd hx hb dL_law_970 ?_
  refine xe_top (nI_add (6 * j) 1) ?_
  refine xs_ld hx hb hX hbl hbA hS (k := 6 * j + 1) (by omega) (by omega) dL_law_971 ?_
  have hpu := pu_check hR (xs (6 * j + 1))
  have hPc := hP.sub (ws' := (wX ad cI cZ zx vx fx)) [0, 1, 2, 3, 4, 5, 6, 7, 8, 9, 10, 11, 12, 13, 14, 15, 16, 17, 18, 19, 20, 21] rfl
  have hM1 := c_X4_check l dC dI ad cI cZ zx vx fx H.size (xs (6 * j + 1)) hokX
  generalize F_X4_check zx vx fx (xs (6 * j + 1)) = FX at hpu hM1
  have hDc := hD.sub (ws' := (wX ad cI cZ zx vx fx)) [0, 1, 2, 3, 4, 5, 6, 7, 8, 9, 10, 11, 12, 13, 14, 15, 16, 17, 18, 19, 20, 21] (by decide) rfl
  have hFc := va_free (wc := (wX ad cI cZ zx vx fx)) hD hS hA [0, 1, 2, 3, 4, 5, 6, 7, 8, 9, 10, 11, 12, 13, 14, 15, 16, 17, 18, 19, 20, 21] rfl
  refine va_calli (va_runV (As := [.int (xs (6 * j + 1))]) (rest := []) ⟨hx, hb, hml, hown, hts⟩ hM1 (cwV 1 hts gL_law_X4_check rfl rfl rfl (by decide +kernel) ⟨Nat.le_of_ble_eq_true rfl, Nat.le_of_ble_eq_true rfl⟩) (preXw (ci := 4) (q0 := 0) hPc hKc hN hDc rfl rfl rfl) rfl rfl hl.1 rfl (lv_room (Nat.le_of_ble_eq_true rfl)) dL_law_972 ⟨by show 41 + j + 0 ≤ 1080; omega, by show 1610 + 6 * j + 0 ≤ 9892; omega⟩) hS (fun q _ h => hFc q h) hFc (fun r5 u9 t9 H1 locs ht hvm hw hB hz1 hk1 hS => ?_)
  have hr5 : r5 = FX.1 := hw
  have hP1 : va_P (dC, dI) vwCl _ t9.heap := hB
  rw [ht] at hP1
  obtain ⟨hP, hD⟩ := va_join (wr := wM am cI cZ th zm vm fm ++ [(o, .inl (cJ, 1, .inr (.inl g)))]) (w1 := (wX ad cI cZ FX.2.1 FX.2.2.1 FX.2.2.2)) hP hD [0, 1, 2, 3, 4, 5, 6, 7, 8, 9, 10, 11, 12, 13, 14, 15, 16, 17, 18, 19, 20, 21] [22, 23, 24, 25, 26, 27, 28, 29, 30, 31, 32, 33, 34, 35, 36, 37, 38, 39, 40] rfl rfl (by decide) (by decide) hk1 hFc hP1 (va_D.fst (ws := (wX ad cI cZ zx vx fx)) rfl (hDc.self (sz := H.size)))
  generalize H1 = H at hP hS ⊢
  have hP : va_P (dC, dI) vwCl (wL ad am cI cZ cJ o FX.2.1 FX.2.2.1 FX.2.2.2 th zm vm fm g) H := hP.sub [19, 20, 21, 22, 23, 24, 25, 26, 27, 28, 29, 30, 31, 32, 33, 34, 35, 36, 37, 38, 39, 40, 0, 1, 2, 3, 4, 5, 6, 7, 8, 9, 10, 11, 12, 13, 14, 15, 16, 17, 18] rfl
  have hD : va_D (fun q : Nat => s.heap.size ≤ q) (wL ad am cI cZ cJ o FX.2.1 FX.2.2.1 FX.2.2.2 th zm vm fm g) := hD.sub [19, 20, 21, 22, 23, 24, 25, 26, 27, 28, 29, 30, 31, 32, 33, 34, 35, 36, 37, 38, 39, 40, 0, 1, 2, 3, 4, 5, 6, 7, 8, 9, 10, 11, 12, 13, 14, 15, 16, 17, 18] (by decide) rfl
  refine lv_aload_n hx hb dL_law_975 rfl (lv_at hl 2 rfl) ?_
  refine lv_aload_n hx hb dL_law_976 rfl (lv_at hl 0 rfl) ?_
  refine lv_iload hx hb dL_law_977 (lv_at hl 4 rfl) ?_
  refine lv_iconst (v := 1) hx hb dL_law_979 (by decide) ?_
  refine lv_iadd hx hb dL_law_980 ?_
  refine xe_top (nI_add (6 * j) 1) ?_
  refine xs_ld hx hb hX hbl hbA hS (k := 6 * j + 1) (by omega) (by omega) dL_law_981 ?_
  have hM2 := c_X5_check l dC dI am cI cZ th zm vm fm H.size (xs (6 * j + 1)) hokM
  generalize F_X5_check zm vm fm (xs (6 * j + 1)) = FM at hpu hM2
  have hPc := hP.sub (ws' := (wM am cI cZ th zm vm fm)) [22, 23, 24, 25, 26, 27, 28, 29, 30, 31, 32, 33, 34, 35, 36, 37, 38, 39] rfl
  have hDc := hD.sub (ws' := (wM am cI cZ th zm vm fm)) [22, 23, 24, 25, 26, 27, 28, 29, 30, 31, 32, 33, 34, 35, 36, 37, 38, 39] (by decide) rfl
  have hFc := va_free (wc := (wM am cI cZ th zm vm fm)) hD hS hA [22, 23, 24, 25, 26, 27, 28, 29, 30, 31, 32, 33, 34, 35, 36, 37, 38, 39] rfl
  refine va_calli (va_runV (As := [.int (xs (6 * j + 1))]) (rest := [.int r5]) ⟨hx, hb, hml, hown, hts⟩ hM2 (cwV 1 hts gL_law_X5_check rfl rfl rfl (by decide +kernel) ⟨Nat.le_of_ble_eq_true rfl, Nat.le_of_ble_eq_true rfl⟩) (preMw (ci := 5) (q0 := 0) hPc hKc hN hDc rfl rfl rfl) rfl rfl hl.1 rfl (lv_room (Nat.le_of_ble_eq_true rfl)) dL_law_982 ⟨by show 41 + j + 0 ≤ 1080; omega, by show 1610 + 6 * j + 0 ≤ 9892; omega⟩) hS (fun q _ h => hFc q h) hFc (fun r6 u9 t9 H1 locs ht hvm hw6 hB hz1 hk1 hS => ?_)
  have hr6 : r6 = FM.1 := hw6
  have hP1 : va_P (dC, dI) vwCl _ t9.heap := hB
  rw [ht] at hP1
  obtain ⟨hP, hD⟩ := va_join (wr := wX ad cI cZ FX.2.1 FX.2.2.1 FX.2.2.2 ++ [(o, .inl (cJ, 1, .inr (.inl g)))]) (w1 := (wM am cI cZ FM.2.1 FM.2.2.1 FM.2.2.2.1 FM.2.2.2.2)) hP hD [22, 23, 24, 25, 26, 27, 28, 29, 30, 31, 32, 33, 34, 35, 36, 37, 38, 39] [0, 1, 2, 3, 4, 5, 6, 7, 8, 9, 10, 11, 12, 13, 14, 15, 16, 17, 18, 19, 20, 21, 40] rfl rfl (by decide) (by decide) hk1 hFc hP1 (va_D.fst (ws := (wM am cI cZ th zm vm fm)) rfl (hDc.self (sz := H.size)))
  generalize H1 = H at hP hS ⊢
  have hP : va_P (dC, dI) vwCl (wL ad am cI cZ cJ o FX.2.1 FX.2.2.1 FX.2.2.2 FM.2.1 FM.2.2.1 FM.2.2.2.1 FM.2.2.2.2 g) H := hP.sub [0, 1, 2, 3, 4, 5, 6, 7, 8, 9, 10, 11, 12, 13, 14, 15, 16, 17, 18, 19, 20, 21, 23, 24, 25, 26, 27, 28, 29, 30, 31, 32, 33, 34, 35, 36, 37, 38, 39, 40, 22] rfl
  have hD : va_D (fun q : Nat => s.heap.size ≤ q) (wL ad am cI cZ cJ o FX.2.1 FX.2.2.1 FX.2.2.2 FM.2.1 FM.2.2.1 FM.2.2.2.1 FM.2.2.2.2 g) := hD.sub [0, 1, 2, 3, 4, 5, 6, 7, 8, 9, 10, 11, 12, 13, 14, 15, 16, 17, 18, 19, 20, 21, 23, 24, 25, 26, 27, 28, 29, 30, 31, 32, 33, 34, 35, 36, 37, 38, 39, 40, 22] (by decide) rfl
  have hR2 := hpu.2
  refine lv_icmp_eq (tgt := 1108) hx hb dL_law_985 (by decide) (fun _ => ?_) (fun h9 => absurd (by rw [hr5, hr6]; exact hpu.1) h9)
  refine W.widen (k := 41 + j + 1) (n := 1610 + 6 * j + 6) (by omega) (by omega) ?_
  exact hk FX.2.1 FX.2.2.1 FX.2.2.2 FM.2.1 FM.2.2.1 FM.2.2.2.1 FM.2.2.2.2 g H locs ls hR2 hP hD hS (lv_sub hl [0, 1, 2, 3, 4] rfl)
