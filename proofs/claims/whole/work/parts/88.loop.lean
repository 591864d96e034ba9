theorem lp_c {j L : Nat} (hL : L ≤ 3072) (hj : 6 * j ≤ L) (h : ¬ nI L - 6 < nI (6 * j)) : 6 * j + 6 ≤ L := by
  have e1 : (nI L - 6).toInt = (L : Int) - 6 := pk_sub_toInt (a := L) (b := 6) (by omega) (by omega)
  rw [Int32.lt_iff_toInt_lt, nI_toInt (by omega)] at h
  omega
theorem lp_i (j : Nat) : nI (6 * j) + Int32.ofInt 6 = nI (6 * (j + 1)) := by
  rw [show Int32.ofInt 6 = nI 6 from rfl, nI_add]
  congr 1
set_option maxHeartbeats 4000000 in
set_option maxRecDepth 100000 in
theorem law_loop {p : Program} {l : Launch} {e : Env} {s : State} {m : MethodId} {below : List Frame} {meth : Method} {c : Code} {dC : Nat → ClassId} {dI : Nat → Nat → Nat} {ad am : Nat → Nat} {cI cZ cJ : ClassId} {o b L : Nat} {xs : Nat → Int32} (hL : L ≤ 3072) (C0 : lw_At p s m meth c b L xs) (hlt : l.stackTraces = false) (hK : va_K (dC, dI) vwCl (cL3 cI cZ cJ) s) (hN : nW s) (hT : tW (fun q : Nat => s.heap.size ≤ q) s) (hC : cW s) : ∀ (n j : Nat), 6 * j ≤ L → 512 < j + n → ∀ (zx : Nat → Nat) (vx : Nat → Int32) (fx : Nat → Nat → Int32) (th : Int32) (zm : Nat → Nat) (vm : Nat → Int32) (fm : Nat → Nat → Int32) (g : Nat → Int64) (H : Heap) (locs : List Loc) (ls : Array Slot), REL zx vx fx zm vm fm → va_P (dC, dI) vwCl (wL ad am cI cZ cJ o zx vx fx th zm vm fm g) H → va_D (fun q : Nat => s.heap.size ≤ q) (wL ad am cI cZ cJ o zx vx fx th zm vm fm g) → va_S (fun q : Nat => s.heap.size ≤ q) s.heap H locs → lv_has ls 7 [(0, .ref b), (1, .ref (ad 0)), (2, .ref (am 0)), (3, .ref o), (4, .int (nI (6 * j)))] → W p l e room_1 s m #[Value.ref b] below meth c H locs (41 + j) (1610 + 6 * j) (lw_Z below #[Value.ref b] s) (F0 m 23 ls []) := by
  obtain ⟨hx, hb, hr, hml, hown, hts0, hX, hbl, hlocks, hgv⟩ := id C0
  have hbA : ¬ (fun q : Nat => s.heap.size ≤ q) b := Nat.not_le.mpr hbl
  intro n
  induction n with
  | zero => intro j h1 h2; exact absurd h2 (by omega)
  | succ n ih =>
    intro j hj hn zx vx fx th zm vm fm g H locs ls hR hP hD hS hl
    refine lv_iload hx hb dL_law_23 (lv_at hl 4 rfl) ?_
    refine lv_aload_n hx hb dL_law_25 rfl (lv_at hl 0 rfl) ?_
    refine va_slen hx hb hX hbl hbA hS dL_law_26 ?_
    refine lv_bipush (v := 6) hx hb dL_law_27 (by decide) ?_
    refine lv_isub hx hb dL_law_29 ?_
    refine lv_icmp_gt (tgt := 1114) hx hb dL_law_30 (by decide) (fun c1 => ?_) (fun c1 => ?_)
    · refine lv_iconst (v := 1) hx hb dL_law_1114 (by decide) ?_
      refine va_forget (fun q hq => hS.2.2 q hq) ?_
      refine W.widen (k := 1080) (n := 9892) (by omega) (by omega) ?_
      exact lw_ret hx hb hr hlocks dL_law_1115
    · have hj6 : 6 * j + 6 ≤ L := lp_c hL hj c1
      have hk : ∀ (zx : Nat → Nat) (vx : Nat → Int32) (fx : Nat → Nat → Int32) (th : Int32) (zm : Nat → Nat) (vm : Nat → Int32) (fm : Nat → Nat → Int32) (g : Nat → Int64) (H : Heap) (locs : List Loc) (ls : Array Slot), REL zx vx fx zm vm fm → va_P (dC, dI) vwCl (wL ad am cI cZ cJ o zx vx fx th zm vm fm g) H → va_D (fun q : Nat => s.heap.size ≤ q) (wL ad am cI cZ cJ o zx vx fx th zm vm fm g) → va_S (fun q : Nat => s.heap.size ≤ q) s.heap H locs → lv_has ls 7 [(0, .ref b), (1, .ref (ad 0)), (2, .ref (am 0)), (3, .ref o), (4, .int (nI (6 * j)))] → W p l e room_1 s m #[Value.ref b] below meth c H locs (41 + j + 1) (1610 + 6 * j + 6) (lw_Z below #[Value.ref b] s) (F0 m 1108 ls []) := by
        intro zx vx fx th zm vm fm g H locs ls hR hP hD hS hl
        refine lv_iinc (v := nI (6 * (j + 1))) (lv' := [(4, .int (nI (6 * (j + 1)))), (0, .ref b), (1, .ref (ad 0)), (2, .ref (am 0)), (3, .ref o)]) hx hb dL_law_1108 hl (k := 4) rfl (lp_i j) (by decide) rfl (fun ls hl => ?_)
        refine lv_goto (tgt := 23) hx hb dL_law_1111 (by decide) ?_
        refine W.widen (k := 41 + (j + 1)) (n := 1610 + 6 * (j + 1)) (by omega) (by omega) ?_
        exact ih (j + 1) (by omega) (by omega) zx vx fx th zm vm fm g H locs ls hR hP hD hS (lv_sub hl [1, 2, 3, 4, 0] rfl)
      refine lv_aload_n hx hb dL_law_33 rfl (lv_at hl 0 rfl) ?_
      refine lv_iload hx hb dL_law_34 (lv_at hl 4 rfl) ?_
      refine xs_ld hx hb hX hbl hbA hS (k := 6 * j) (by omega) (by omega) dL_law_36 ?_
      refine lv_bipush (v := 15) hx hb dL_law_37 (by decide) ?_
      refine lv_iand hx hb dL_law_39 ?_
      obtain ⟨t, ht, e1⟩ := pk_andE (xs (6 * j)) (m := 15) 4 (by decide)
      refine xe_top e1 ?_
      have ht : t < 16 := ht
      clear e1
      rcases (show t = 0 ∨ t = 1 ∨ t = 2 ∨ t = 3 ∨ t = 4 ∨ t = 5 ∨ t = 6 ∨ t = 7 ∨ t = 8 ∨ t = 9 ∨ t = 10 ∨ t = 11 ∨ t = 12 ∨ t = 13 ∨ t = 14 ∨ t = 15 by omega) with rfl | rfl | rfl | rfl | rfl | rfl | rfl | rfl | rfl | rfl | rfl | rfl | rfl | rfl | rfl | rfl
      · exact lv_tableIn (off := 80) (tgt := 120) hx hb dL_law_40 (by decide) (by decide) (by rfl) (by decide) (law_trader hL C0 hlt hK hN hT hC j hj6 zx vx fx th zm vm fm g H locs ls hR hP hD hS hl hk)
      · exact lv_tableIn (off := 124) (tgt := 164) hx hb dL_law_40 (by decide) (by decide) (by rfl) (by decide) (law_right hL C0 hlt hK hN hT hC j hj6 zx vx fx th zm vm fm g H locs ls hR hP hD hS hl hk)
      · exact lv_tableIn (off := 228) (tgt := 268) hx hb dL_law_40 (by decide) (by decide) (by rfl) (by decide) (law_forbid hL C0 hlt hK hN hT hC j hj6 zx vx fx th zm vm fm g H locs ls hR hP hD hS hl hk)
      · exact lv_tableIn (off := 293) (tgt := 333) hx hb dL_law_40 (by decide) (by decide) (by rfl) (by decide) (law_group hL C0 hlt hK hN hT hC j hj6 zx vx fx th zm vm fm g H locs ls hR hP hD hS hl hk)
      · exact lv_tableIn (off := 361) (tgt := 401) hx hb dL_law_40 (by decide) (by decide) (by rfl) (by decide) (law_deputy hL C0 hlt hK hN hT hC j hj6 zx vx fx th zm vm fm g H locs ls hR hP hD hS hl hk)
      · exact lv_tableIn (off := 429) (tgt := 469) hx hb dL_law_40 (by decide) (by decide) (by rfl) (by decide) (law_mandate hL C0 hlt hK hN hT hC j hj6 zx vx fx th zm vm fm g H locs ls hR hP hD hS hl hk)
      · exact lv_tableIn (off := 537) (tgt := 577) hx hb dL_law_40 (by decide) (by decide) (by rfl) (by decide) (law_suspend hL C0 hlt hK hN hT hC j hj6 zx vx fx th zm vm fm g H locs ls hR hP hD hS hl hk)
      · exact lv_tableIn (off := 633) (tgt := 673) hx hb dL_law_40 (by decide) (by decide) (by rfl) (by decide) (law_end hL C0 hlt hK hN hT hC j hj6 zx vx fx th zm vm fm g H locs ls hR hP hD hS hl hk)
      · exact lv_tableIn (off := 670) (tgt := 710) hx hb dL_law_40 (by decide) (by decide) (by rfl) (by decide) (law_may hL C0 hlt hK hN hT hC j hj6 zx vx fx th zm vm fm g H locs ls hR hP hD hS hl hk)
      · exact lv_tableIn (off := 731) (tgt := 771) hx hb dL_law_40 (by decide) (by decide) (by rfl) (by decide) (law_two hL C0 hlt hK hN hT hC j hj6 zx vx fx th zm vm fm g H locs ls hR hP hD hS hl hk)
      · exact lv_tableIn (off := 784) (tgt := 824) hx hb dL_law_40 (by decide) (by decide) (by rfl) (by decide) (law_done hL C0 hlt hK hN hT hC j hj6 zx vx fx th zm vm fm g H locs ls hR hP hD hS hl hk)
      · exact lv_tableIn (off := 857) (tgt := 897) hx hb dL_law_40 (by decide) (by decide) (by rfl) (by decide) (law_letter hL C0 hlt hK hN hT hC j hj6 zx vx fx th zm vm fm g H locs ls hR hP hD hS hl hk)
      · exact lv_tableIn (off := 925) (tgt := 965) hx hb dL_law_40 (by decide) (by decide) (by rfl) (by decide) (law_check hL C0 hlt hK hN hT hC j hj6 zx vx fx th zm vm fm g H locs ls hR hP hD hS hl hk)
      · exact lv_tableIn (off := 950) (tgt := 990) hx hb dL_law_40 (by decide) (by decide) (by rfl) (by decide) (law_certified hL C0 hlt hK hN hT hC j hj6 zx vx fx th zm vm fm g H locs ls hR hP hD hS hl hk)
      · exact lv_tableIn (off := 963) (tgt := 1003) hx hb dL_law_40 (by decide) (by decide) (by rfl) (by decide) (law_look hL C0 hlt hK hN hT hC j hj6 zx vx fx th zm vm fm g H locs ls hR hP hD hS hl hk)
      · exact lv_tableIn (off := 1043) (tgt := 1083) hx hb dL_law_40 (by decide) (by decide) (by rfl) (by decide) (law_count hL C0 hlt hK hN hT hC j hj6 zx vx fx th zm vm fm g H locs ls hR hP hD hS hl hk)
