def F_X4_ownersOf_L18 (z : Nat → Nat) (v : Nat → Int32) (f : Nat → Nat → Int32) (a pl day aw : Int32)  (x5 : Int32) : Nat → Int32 → Nat → Int32
  | 0, ow, k => ow
  | n18 + 1, ow, k =>
    if z 0 ≤ k then
      ow
    else
      if F_X4_isForbidden z v f (nI k) a = 0 then
        if (((F_X4_bit (nI k)) ||| (F_X4_groupsAmong z v f (nI k) aw)) &&& x5) = 0 then
          F_X4_ownersOf_L18 z v f a pl day aw x5 n18 ow (k + 1)
        else
          F_X4_ownersOf_L18 z v f a pl day aw x5 n18 (ow ||| (F_X4_bit (nI k))) (k + 1)
      else
        F_X4_ownersOf_L18 z v f a pl day aw x5 n18 ow (k + 1)
def F_X4_ownersOf (z : Nat → Nat) (v : Nat → Int32) (f : Nat → Nat → Int32) (a pl day aw : Int32) : Int32 :=
  (F_X4_ownersOf_L18 z v f a pl day aw (F_X2_tradersWith z v f a pl day) (z 0 + 1) 0 0)
set_option maxHeartbeats 4000000 in
set_option maxRecDepth 100000 in
theorem c_X4_ownersOf (l : Launch) (dC : Nat → ClassId) (dI : Nat → Nat → Nat) (ad : Nat → Nat) (cI cZ : ClassId) (z : Nat → Nat) (v : Nat → Int32) (f : Nat → Nat → Int32) (a pl day aw : Int32) (hok : okX z v f) : Met l yX4_ownersOf wsX4_ownersOf ({ frames := 3, cells := 0, slots := 0, locals := 68 }) (va_Pc [.ref (ad 0), .int a, .int pl, .int day, .int aw] (kX dC dI ad cI cZ z v f)) (vp_Si (fun r => r = F_X4_ownersOf z v f a pl day aw)) 0 0 (fun _ => False) := by
  refine Met.ofW (cc := cX4_ownersOf) (maxL := 9) (ret := (some .int)) (by decide) rfl ?_
  intro p e s m args below meth c s₁ B hml hv
  obtain ⟨rfl, hP, hK, hN⟩ := hv
  have hx := B.exec
  have hb := B.bytes
  have hr := B.returns
  have hts := atoms_spec (ws := wsX4_ownersOf) B.pre
  have hown : s.vm.findClass RX4 = some m.cls := findClass_of_methodNamed B.named
  have hlocks := B.notSynchronized
  have hok9 := hok
  obtain ⟨hz0, hz1, hz2, hz3, hz4, hbz, hbs⟩ := hok9
  have hfl41 := hts (.fieldLink RX4 41 "TraderRights" "rights" "LTraderRights$Rights;") (List.mem_of_getElem? (i := 1) rfl)
  have hfl7 := hts (.fieldLink RX4 7 "TraderRights" "traders" "I") (List.mem_of_getElem? (i := 2) rfl)
  have himX2_tradersWith := hts (.instanceMethod yX2_tradersWith) (List.mem_of_getElem? (i := 3) rfl)
  have hinX4 : ∀ w ∈ u_ws RX4 TX4 11, w ∈ wsX4_ownersOf := fun w h => List.mem_cons_of_mem _ (List.mem_append_left _ (List.mem_append_right _ h))
  have hiniX2 := hts (.initialized RX2) (List.mem_of_getElem? (i := 4) rfl)
  have hnw204 := hN (.methodLinkNest RX4 204 yX2_tradersWith "TraderRights") (by decide +kernel)
  have hseX2_tradersWith := hts (.selects RX2 yX2_tradersWith yX2_tradersWith) (List.mem_of_getElem? (i := 5) rfl)
  have hl := lv_entry ([.ref (ad 0), .int a, .int pl, .int day, .int aw]) (n := 9) (Nat.le_of_ble_eq_true rfl)
  rw [lg_entry_eq]
  generalize (lg_sl ([.ref (ad 0), .int a, .int pl, .int day, .int aw]) ++ List.replicate (9 - (lg_sl ([.ref (ad 0), .int a, .int pl, .int day, .int aw])).length) Slot.unset).toArray = ls at hl ⊢
  have hl : lv_has ls 9 [(0, .ref (ad 0)), (1, .int a), (2, .int pl), (3, .int day), (4, .int aw)] := hl
  generalize hF : F_X4_ownersOf z v f a pl day aw = R9
  generalize hQ9 : MQ below (vp_Si (fun r => r = R9)) _ s 0 0 (fun _ => False) = Q9
  rw [F_X4_ownersOf] at hF
  refine lv_aload_n hx hb dX4_ownersOf_0 rfl (lv_at hl 0 rfl) ?_
  refine va_get (D := (dC, dI)) (ci := 4) (v := .ref (ad 6)) (C := RX4) (T := TX4) (N := 11) hx hb hts hinX4 hown hK hP 0 rfl rfl 7 (by decide) hfl41 (fun _ h9 => h9) rfl dX4_ownersOf_1 ?_
  refine lv_iload_n hx hb dX4_ownersOf_4 rfl (lv_at hl 1 rfl) ?_
  refine lv_iload_n hx hb dX4_ownersOf_5 rfl (lv_at hl 2 rfl) ?_
  refine lv_iload_n hx hb dX4_ownersOf_6 rfl (lv_at hl 3 rfl) ?_
  refine vp_callSi (va_Run.run (va_runVN (As := [.int a, .int pl, .int day]) (rest := []) ⟨hx, hb, hml, hown, hts⟩ (c_X2_tradersWith l dC dI ad cI cZ z v f a pl day hok) ⟨(va_cnB 3 hts gX4_ownersOf_X2_tradersWith_n204 rfl rfl rfl hnw204 hiniX2 (by decide +kernel) ⟨Nat.le_of_ble_eq_true rfl, Nat.le_of_ble_eq_true rfl⟩), himX2_tradersWith, hseX2_tradersWith⟩ (preX (ci := 2) (q0 := 6) hP hK hN rfl rfl rfl) rfl rfl hl.1 rfl (lv_room (Nat.le_of_ble_eq_true rfl)) dX4_ownersOf_7 ⟨Nat.zero_le _, Nat.zero_le _⟩)) (fun r1 h9 => ?_)
  have hr1 : r1 = F_X2_tradersWith z v f a pl day := h9
  try rw [← hr1] at hF
  refine lv_istore (lv' := [(5, .int r1), (0, .ref (ad 0)), (1, .int a), (2, .int pl), (3, .int day), (4, .int aw)]) hx hb dX4_ownersOf_10 hl (by decide) rfl (fun ls hl => ?_)
  refine lv_iconst (v := 0) hx hb dX4_ownersOf_12 (by decide) ?_
  refine lv_istore (lv' := [(6, .int 0), (5, .int r1), (0, .ref (ad 0)), (1, .int a), (2, .int pl), (3, .int day), (4, .int aw)]) hx hb dX4_ownersOf_13 hl (by decide) rfl (fun ls hl => ?_)
  refine lv_iconst (v := 0) hx hb dX4_ownersOf_15 (by decide) ?_
  refine lv_istore (lv' := [(7, .int 0), (6, .int 0), (5, .int r1), (0, .ref (ad 0)), (1, .int a), (2, .int pl), (3, .int day), (4, .int aw)]) hx hb dX4_ownersOf_16 hl (by decide) rfl (fun ls hl => ?_)
  have lp18 : ∀ (n18 : Nat) (ow : Int32) (k : Nat) (ls : Array Slot), k ≤ z 0 → z 0 < k + n18 → lv_has ls 9 [(0, .ref (ad 0)), (1, .int a), (2, .int pl), (3, .int day), (4, .int aw), (5, .int r1), (6, .int ow), (7, .int (nI k))] → (∀ ls : Array Slot, lv_has ls 9 [(0, .ref (ad 0)), (1, .int a), (2, .int pl), (3, .int day), (4, .int aw), (5, .int r1), (6, .int (F_X4_ownersOf_L18 z v f a pl day aw r1 n18 ow k))] → W p l e (headSpec wsX4_ownersOf ({ frames := 3, cells := 0, slots := 0, locals := 68 })).room s m ([.ref (ad 0), .int a, .int pl, .int day, .int aw] : List Value).toArray below meth c s.heap [] 0 0 Q9 (F0 m 77 ls [])) → W p l e (headSpec wsX4_ownersOf ({ frames := 3, cells := 0, slots := 0, locals := 68 })).room s m ([.ref (ad 0), .int a, .int pl, .int day, .int aw] : List Value).toArray below meth c s.heap [] 0 0 Q9 (F0 m 18 ls []) := by
    intro n18
    induction n18 with
    | zero =>
      intro ow k ls hk18 hn18
      exact absurd hn18 (by omega)
    | succ n18 ih18 =>
      intro ow k ls hk18 hn18 hl hq18
      generalize hF18 : F_X4_ownersOf_L18 z v f a pl day aw r1 (n18 + 1) ow k = R18 at hq18
      rw [F_X4_ownersOf_L18] at hF18
      refine lv_iload hx hb dX4_ownersOf_18 (lv_at hl 7 rfl) ?_
      refine lv_aload_n hx hb dX4_ownersOf_20 rfl (lv_at hl 0 rfl) ?_
      refine va_get (D := (dC, dI)) (ci := 4) (v := .int (nI (z 0))) (C := RX4) (T := TX4) (N := 11) hx hb hts hinX4 hown hK hP 0 rfl rfl 0 (by decide) hfl7 (fun _ h9 => h9) rfl dX4_ownersOf_21 ?_
      refine lv_icmp_ge (tgt := 77) hx hb dX4_ownersOf_24 (by decide) (fun c2 => ?_) (fun c2 => ?_)
      · have c2 : z 0 ≤ k := (nI_leI (a := z 0) (b := k) (by omega) (by omega)).mp c2
        rw [if_pos c2] at hF18
        subst hF18
        exact hq18 ls (lv_sub hl [0, 1, 2, 3, 4, 5, 6] rfl)
      · have c2 : ¬ z 0 ≤ k := fun h9 => c2 ((nI_leI (a := z 0) (b := k) (by omega) (by omega)).mpr h9)
        rw [if_neg c2] at hF18
        refine lv_iload hx hb dX4_ownersOf_27 (lv_at hl 7 rfl) ?_
        refine vp_callSi (W.runS (As := [.int (nI k)]) (rest := []) ⟨hx, hb, hml, hown, hts⟩ (c_X4_bit l (nI k)) (cwS 1 hts gX4_ownersOf_X4_bit rfl rfl rfl (by decide +kernel) ⟨Nat.le_of_ble_eq_true rfl, Nat.le_of_ble_eq_true rfl⟩) preT rfl rfl hl.1 rfl (lv_room (Nat.le_of_ble_eq_true rfl)) dX4_ownersOf_29 ⟨Nat.zero_le _, Nat.zero_le _⟩) (fun r3 h9 => ?_)
        have hr3 : r3 = F_X4_bit (nI k) := h9
        try rw [← hr3] at hF
        try rw [← hr3] at hF18
        refine lv_aload_n hx hb dX4_ownersOf_32 rfl (lv_at hl 0 rfl) ?_
        refine lv_iload hx hb dX4_ownersOf_33 (lv_at hl 7 rfl) ?_
        refine lv_iload hx hb dX4_ownersOf_35 (lv_at hl 4 rfl) ?_
        refine vp_callSi (W.runV (As := [.int (nI k), .int aw]) (rest := [.int r3]) ⟨hx, hb, hml, hown, hts⟩ (c_X4_groupsAmong l dC dI ad cI cZ z v f (nI k) aw hok (vp_in_nI (by omega) (by omega))) (cwV 2 hts gX4_ownersOf_X4_groupsAmong rfl rfl rfl (by decide +kernel) ⟨Nat.le_of_ble_eq_true rfl, Nat.le_of_ble_eq_true rfl⟩) (preX (ci := 4) (q0 := 0) hP hK hN rfl rfl rfl) rfl rfl hl.1 rfl (lv_room (Nat.le_of_ble_eq_true rfl)) dX4_ownersOf_37 ⟨Nat.zero_le _, Nat.zero_le _⟩) (fun r4 h9 => ?_)
        have hr4 : r4 = F_X4_groupsAmong z v f (nI k) aw := h9
        try rw [← hr4] at hF
        try rw [← hr4] at hF18
        refine lv_ior hx hb dX4_ownersOf_40 ?_
        refine lv_istore (lv' := [(8, .int (r3 ||| r4)), (0, .ref (ad 0)), (1, .int a), (2, .int pl), (3, .int day), (4, .int aw), (5, .int r1), (6, .int ow), (7, .int (nI k))]) hx hb dX4_ownersOf_41 hl (by decide) rfl (fun ls hl => ?_)
        refine lv_aload_n hx hb dX4_ownersOf_43 rfl (lv_at hl 1 rfl) ?_
        refine lv_iload hx hb dX4_ownersOf_44 (lv_at hl 8 rfl) ?_
        refine lv_iload_n hx hb dX4_ownersOf_46 rfl (lv_at hl 2 rfl) ?_
        refine vp_callSi (W.runV (As := [.int (nI k), .int a]) (rest := []) ⟨hx, hb, hml, hown, hts⟩ (c_X4_isForbidden l dC dI ad cI cZ z v f (nI k) a hok (vp_in_nI (by omega) (by omega))) (cwV 2 hts gX4_ownersOf_X4_isForbidden rfl rfl rfl (by decide +kernel) ⟨Nat.le_of_ble_eq_true rfl, Nat.le_of_ble_eq_true rfl⟩) (preX (ci := 4) (q0 := 0) hP hK hN rfl rfl rfl) rfl rfl hl.1 rfl (lv_room (Nat.le_of_ble_eq_true rfl)) dX4_ownersOf_47 ⟨Nat.zero_le _, Nat.zero_le _⟩) (fun r5 h9 => ?_)
        have hr5 : r5 = F_X4_isForbidden z v f (nI k) a := h9
        try rw [← hr5] at hF
        try rw [← hr5] at hF18
        refine lv_if_ne (tgt := 71) hx hb dX4_ownersOf_50 (by decide) (fun c6 => ?_) (fun c6 => ?_)
        · rw [if_neg c6] at hF18
          have c6f : ¬ F_X4_isForbidden z v f (nI k) a = 0 := by rw [← hr5]; exact c6
          refine lv_iinc (v := nI (k + 1)) (lv' := [(7, .int (nI (k + 1))), (8, .int (r3 ||| r4)), (0, .ref (ad 0)), (1, .int a), (2, .int pl), (3, .int day), (4, .int aw), (5, .int r1), (6, .int ow)]) hx hb dX4_ownersOf_71 hl (k := 8) rfl (xi_inc _) (by decide) rfl (fun ls hl => ?_)
          refine lv_goto (tgt := 18) hx hb dX4_ownersOf_74 (by decide) ?_
          exact ih18 ow (k + 1) ls (by omega) (by omega) (lv_sub hl [2, 3, 4, 5, 6, 7, 8, 0] rfl) (by rw [hF18]; exact hq18)
        · rw [if_pos c6] at hF18
          have c6f : F_X4_isForbidden z v f (nI k) a = 0 := by rw [← hr5]; exact c6
          refine lv_iload hx hb dX4_ownersOf_53 (lv_at hl 0 rfl) ?_
          refine lv_iload hx hb dX4_ownersOf_55 (lv_at hl 6 rfl) ?_
          refine lv_iand hx hb dX4_ownersOf_57 ?_
          refine lv_if_eq (tgt := 71) hx hb dX4_ownersOf_58 (by decide) (fun c7 => ?_) (fun c7 => ?_)
          · rw [if_pos c7] at hF18
            refine lv_iinc (v := nI (k + 1)) (lv' := [(7, .int (nI (k + 1))), (8, .int (r3 ||| r4)), (0, .ref (ad 0)), (1, .int a), (2, .int pl), (3, .int day), (4, .int aw), (5, .int r1), (6, .int ow)]) hx hb dX4_ownersOf_71 hl (k := 8) rfl (xi_inc _) (by decide) rfl (fun ls hl => ?_)
            refine lv_goto (tgt := 18) hx hb dX4_ownersOf_74 (by decide) ?_
            exact ih18 ow (k + 1) ls (by omega) (by omega) (lv_sub hl [2, 3, 4, 5, 6, 7, 8, 0] rfl) (by rw [hF18]; exact hq18)
          · rw [if_neg c7] at hF18
            refine lv_iload hx hb dX4_ownersOf_61 (lv_at hl 7 rfl) ?_
            refine lv_iload hx hb dX4_ownersOf_63 (lv_at hl 8 rfl) ?_
            refine vp_callSi (W.runS (As := [.int (nI k)]) (rest := [.int ow]) ⟨hx, hb, hml, hown, hts⟩ (c_X4_bit l (nI k)) (cwS 1 hts gX4_ownersOf_X4_bit rfl rfl rfl (by decide +kernel) ⟨Nat.le_of_ble_eq_true rfl, Nat.le_of_ble_eq_true rfl⟩) preT rfl rfl hl.1 rfl (lv_room (Nat.le_of_ble_eq_true rfl)) dX4_ownersOf_65 ⟨Nat.zero_le _, Nat.zero_le _⟩) (fun r8 h9 => ?_)
            have e9 : r8 = r3 := h9.trans hr3.symm
            rw [e9]
            refine lv_ior hx hb dX4_ownersOf_68 ?_
            refine lv_istore (lv' := [(6, .int (ow ||| r3)), (8, .int (r3 ||| r4)), (0, .ref (ad 0)), (1, .int a), (2, .int pl), (3, .int day), (4, .int aw), (5, .int r1), (7, .int (nI k))]) hx hb dX4_ownersOf_69 hl (by decide) rfl (fun ls hl => ?_)
            refine lv_iinc (v := nI (k + 1)) (lv' := [(7, .int (nI (k + 1))), (6, .int (ow ||| r3)), (8, .int (r3 ||| r4)), (0, .ref (ad 0)), (1, .int a), (2, .int pl), (3, .int day), (4, .int aw), (5, .int r1)]) hx hb dX4_ownersOf_71 hl (k := 8) rfl (xi_inc _) (by decide) rfl (fun ls hl => ?_)
            refine lv_goto (tgt := 18) hx hb dX4_ownersOf_74 (by decide) ?_
            exact ih18 (ow ||| r3) (k + 1) ls (by omega) (by omega) (lv_sub hl [3, 4, 5, 6, 7, 8, 1, 0] rfl) (by rw [hF18]; exact hq18)
  refine lp18 (z 0 + 1) 0 0 ls (by omega) (by omega) (lv_sub hl [3, 4, 5, 6, 7, 2, 1, 0] rfl) (fun ls hl => ?_)
  obtain ⟨r9, hr9⟩ : ∃ y, y = (F_X4_ownersOf_L18 z v f a pl day aw r1 (z 0 + 1) 0 0) := ⟨_, rfl⟩
  rw [← hr9] at hl
  try rw [← hr9] at hF
  refine lv_iload hx hb dX4_ownersOf_77 (lv_at hl 6 rfl) ?_
  subst hQ9
  exact W.iret hx hb hr (fun t ht hW => ⟨_, rfl, hF, ht⟩) (fun q h => by cases h) dX4_ownersOf_79
