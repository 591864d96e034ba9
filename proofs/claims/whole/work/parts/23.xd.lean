def F_X4_ownersOf_L18 (z : Nat → Nat) (v : Nat → Int32) (f : Nat → Nat → Int32) (a pl day aw : Int32)  : Nat → Int32 → Nat → Int32
  | 0, ow, k => ow
  | n18 + 1, ow, k =>
    if z 0 ≤ k then
      ow
    else
      if F_X4_isForbidden z v f (nI k) a = 0 then
        if (((F_X4_bit (nI k)) ||| (F_X4_groupsAmong z v f (nI k) aw)) &&& (F_X2_tradersWith z v f a pl day)) = 0 then
          F_X4_ownersOf_L18 z v f a pl day aw n18 ow (k + 1)
        else
          F_X4_ownersOf_L18 z v f a pl day aw n18 (ow ||| (F_X4_bit (nI k))) (k + 1)
      else
        F_X4_ownersOf_L18 z v f a pl day aw n18 ow (k + 1)
def F_X4_ownersOf (z : Nat → Nat) (v : Nat → Int32) (f : Nat → Nat → Int32) (a pl day aw : Int32) : Int32 :=
  (F_X4_ownersOf_L18 z v f a pl day aw (z 0 + 1) 0 0)
set_option maxHeartbeats 4000000 in
set_option maxRecDepth 100000 in
theorem c_X4_ownersOf (l : Launch) (dC : Nat → ClassId) (dI : Nat → Nat → Nat) (ad : Nat → Nat) (cI cZ : ClassId) (z : Nat → Nat) (v : Nat → Int32) (f : Nat → Nat → Int32) (a pl day aw : Int32) (hok : okX z v f) : Met l yX4_ownersOf wsX4_ownersOf ({ frames := 3, cells := 0, slots := 0, locals := 68 }) (va_Pc [.ref (ad 0), .int a, .int pl, .int day, .int aw] (kX dC dI ad cI cZ z v f)) (vp_Si (fun r => r = F_X4_ownersOf z v f a pl day aw)) 0 0 (fun _ => False) := by
  refine Met.ofW (cc := cX4_ownersOf) (maxL := 9) (ret := (some .int)) (by decide) rfl ?_
  intro p e s m args below meth c s₁ B hml hv
  obtain ⟨rfl, hP, hK, hN⟩ := hv
  have hx := B.exec
  have hb := B.bytes
  have hr := B.returns
  have hts := atoms_spec (ws := wsX4_ownersOf) B.pre
  have hown : s.vm.findClass RX4 = some m.cls := findClass_of_methodNamed B.named
  have hlocks := B.notSynchronized
  have hok9 := hok
  obtain ⟨hz0, hz1, hz2, hz3, hz4, hbz, hbs⟩ := hok9
  have hfl41 := hts (.fieldLink RX4 41 "TraderRights" "rights" "LTraderRights$Rights;") (by decide +kernel)
  have hfl7 := hts (.fieldLink RX4 7 "TraderRights" "traders" "I") (by decide +kernel)
  have himX2_tradersWith := hts (.instanceMethod yX2_tradersWith) (by decide +kernel)
  have hinX4 : ∀ w ∈ u_ws RX4 TX4 11, w ∈ wsX4_ownersOf := by decide +kernel
  have hiniX2 := hts (.initialized RX2) (by decide +kernel)
  have hnw204 := hN (.methodLinkNest RX4 204 yX2_tradersWith "TraderRights") (by decide +kernel)
  have hseX2_tradersWith := hts (.selects RX2 yX2_tradersWith yX2_tradersWith) (by decide +kernel)
  have hl := lv_entry ([.ref (ad 0), .int a, .int pl, .int day, .int aw]) (n := 9) (Nat.le_of_ble_eq_true rfl)
  rw [lg_entry_eq]
  generalize (lg_sl ([.ref (ad 0), .int a, .int pl, .int day, .int aw]) ++ List.replicate (9 - (lg_sl ([.ref (ad 0), .int a, .int pl, .int day, .int aw])).length) Slot.unset).toArray = ls at hl ⊢
  have hl : lv_has ls 9 [(0, .ref (ad 0)), (1, .int a), (2, .int pl), (3, .int day), (4, .int aw)] := hl
  generalize hF : F_X4_ownersOf z v f a pl day aw = R9
  generalize hQ9 : MQ below (vp_Si (fun r => r = R9)) _ s 0 0 (fun _ => False) = Q9
  rw [F_X4_ownersOf] at hF
  refine lv_aload_n hx hb dX4_ownersOf_0 rfl (lv_at hl 0 rfl) ?_
  refine va_get (D := (dC, dI)) (ci := 4) (v := .ref (ad 6)) (C := RX4) (T := TX4) (N := 11) hx hb hts hinX4 hown hK hP 0 rfl rfl 7 (by decide) hfl41 (fun _ h9 => h9) rfl dX4_ownersOf_1 ?_
  refine lv_iload_n hx hb dX4_ownersOf_4 rfl (lv_at hl 1 rfl) ?_
  refine lv_iload_n hx hb dX4_ownersOf_5 rfl (lv_at hl 2 rfl) ?_
  refine lv_iload_n hx hb dX4_ownersOf_6 rfl (lv_at hl 3 rfl) ?_
  refine vp_callSi (va_Run.run (va_runVN (As := [.int a, .int pl, .int day]) (rest := []) ⟨hx, hb, hml, hown, hts⟩ (c_X2_tradersWith l dC dI ad cI cZ z v f a pl day hok) ⟨(va_cnB 3 hts gX4_ownersOf_X2_tradersWith_n204 rfl rfl rfl hnw204 hiniX2 (by decide +kernel) ⟨Nat.le_of_ble_eq_true rfl, Nat.le_of_ble_eq_true rfl⟩), himX2_tradersWith, hseX2_tradersWith⟩ (preX (ci := 2) (q0 := 6) hP hK hN rfl rfl rfl) rfl rfl hl.1 rfl (lv_room (Nat.le_of_ble_eq_true rfl)) dX4_ownersOf_7 ⟨Nat.zero_le _, Nat.zero_le _⟩)) (fun r1 h9 => ?_)
  obtain rfl : r1 = F_X2_tradersWith z v f a pl day := h9
  refine lv_istore (lv' := [(5, .int (F_X2_tradersWith z v f a pl day)), (0, .ref (ad 0)), (1, .int a), (2, .int pl), (3, .int day), (4, .int aw)]) hx hb dX4_ownersOf_10 hl (by decide) rfl (fun ls hl => ?_)
  refine lv_iconst (v := 0) hx hb dX4_ownersOf_12 (by decide) ?_
  refine lv_istore (lv' := [(6, .int 0), (5, .int (F_X2_tradersWith z v f a pl day)), (0, .ref (ad 0)), (1, .int a), (2, .int pl), (3, .int day), (4, .int aw)]) hx hb dX4_ownersOf_13 hl (by decide) rfl (fun ls hl => ?_)
  refine lv_iconst (v := 0) hx hb dX4_ownersOf_15 (by decide) ?_
  refine lv_istore (lv' := [(7, .int 0), (6, .int 0), (5, .int (F_X2_tradersWith z v f a pl day)), (0, .ref (ad 0)), (1, .int a), (2, .int pl), (3, .int day), (4, .int aw)]) hx hb dX4_ownersOf_16 hl (by decide) rfl (fun ls hl => ?_)
  have lp18 : ∀ (n18 : Nat) (ow : Int32) (k : Nat) (ls : Array Slot), k ≤ z 0 → z 0 < k + n18 → lv_has ls 9 [(0, .ref (ad 0)), (1, .int a), (2, .int pl), (3, .int day), (4, .int aw), (5, .int (F_X2_tradersWith z v f a pl day)), (6, .int ow), (7, .int (nI k))] → (∀ ls : Array Slot, lv_has ls 9 [(0, .ref (ad 0)), (1, .int a), (2, .int pl), (3, .int day), (4, .int aw), (5, .int (F_X2_tradersWith z v f a pl day)), (6, .int (F_X4_ownersOf_L18 z v f a pl day aw n18 ow k))] → W p l e (headSpec wsX4_ownersOf ({ frames := 3, cells := 0, slots := 0, locals := 68 })).room s m ([.ref (ad 0), .int a, .int pl, .int day, .int aw] : List Value).toArray below meth c s.heap [] 0 0 Q9 (F0 m 77 ls [])) → W p l e (headSpec wsX4_ownersOf ({ frames := 3, cells := 0, slots := 0, locals := 68 })).room s m ([.ref (ad 0), .int a, .int pl, .int day, .int aw] : List Value).toArray below meth c s.heap [] 0 0 Q9 (F0 m 18 ls []) := by
    intro n18
    induction n18 with
    | zero =>
      intro ow k ls hk18 hn18
      exact absurd hn18 (by omega)
    | succ n18 ih18 =>
      intro ow k ls hk18 hn18 hl hq18
      generalize hF18 : F_X4_ownersOf_L18 z v f a pl day aw (n18 + 1) ow k = R18 at hq18
      rw [F_X4_ownersOf_L18] at hF18
      refine lv_iload hx hb dX4_ownersOf_18 (lv_at hl 7 rfl) ?_
      refine lv_aload_n hx hb dX4_ownersOf_20 rfl (lv_at hl 0 rfl) ?_
      refine va_get (D := (dC, dI)) (ci := 4) (v := .int (nI (z 0))) (C := RX4) (T := TX4) (N := 11) hx hb hts hinX4 hown hK hP 0 rfl rfl 0 (by decide) hfl7 (fun _ h9 => h9) rfl dX4_ownersOf_21 ?_
      refine lv_icmp_ge (tgt := 77) hx hb dX4_ownersOf_24 (by decide) (fun c2 => ?_) (fun c2 => ?_)
      · have c2 : z 0 ≤ k := (nI_leI (a := z 0) (b := k) (by omega) (by omega)).mp c2
        rw [if_pos c2] at hF18
        subst hF18
        exact hq18 ls (lv_sub hl [0, 1, 2, 3, 4, 5, 6] rfl)
      · have c2 : ¬ z 0 ≤ k := fun h9 => c2 ((nI_leI (a := z 0) (b := k) (by omega) (by omega)).mpr h9)
        rw [if_neg c2] at hF18
        refine lv_iload hx hb dX4_ownersOf_27 (lv_at hl 7 rfl) ?_
        refine vp_callSi (W.runS (As := [.int (nI k)]) (rest := []) ⟨hx, hb, hml, hown, hts⟩ (c_X4_bit l (nI k)) (cwS 1 hts gX4_ownersOf_X4_bit rfl rfl rfl (by decide +kernel) ⟨Nat.le_of_ble_eq_true rfl, Nat.le_of_ble_eq_true rfl⟩) preT rfl rfl hl.1 rfl (lv_room (Nat.le_of_ble_eq_true rfl)) dX4_ownersOf_29 ⟨Nat.zero_le _, Nat.zero_le _⟩) (fun r3 h9 => ?_)
        obtain rfl : r3 = F_X4_bit (nI k) := h9
        refine lv_aload_n hx hb dX4_ownersOf_32 rfl (lv_at hl 0 rfl) ?_
        refine lv_iload hx hb dX4_ownersOf_33 (lv_at hl 7 rfl) ?_
        refine lv_iload hx hb dX4_ownersOf_35 (lv_at hl 4 rfl) ?_
        refine vp_callSi (W.runV (As := [.int (nI k), .int aw]) (rest := [.int (F_X4_bit (nI k))]) ⟨hx, hb, hml, hown, hts⟩ (c_X4_groupsAmong l dC dI ad cI cZ z v f (nI k) aw hok (by first | assumption | omega | exact vp_in_nI (by omega) (by omega))) (cwV 2 hts gX4_ownersOf_X4_groupsAmong rfl rfl rfl (by decide +kernel) ⟨Nat.le_of_ble_eq_true rfl, Nat.le_of_ble_eq_true rfl⟩) (preX (ci := 4) (q0 := 0) hP hK hN rfl rfl rfl) rfl rfl hl.1 rfl (lv_room (Nat.le_of_ble_eq_true rfl)) dX4_ownersOf_37 ⟨Nat.zero_le _, Nat.zero_le _⟩) (fun r4 h9 => ?_)
        obtain rfl : r4 = F_X4_groupsAmong z v f (nI k) aw := h9
        refine lv_ior hx hb dX4_ownersOf_40 ?_
        refine lv_istore (lv' := [(8, .int ((F_X4_bit (nI k)) ||| (F_X4_groupsAmong z v f (nI k) aw))), (0, .ref (ad 0)), (1, .int a), (2, .int pl), (3, .int day), (4, .int aw), (5, .int (F_X2_tradersWith z v f a pl day)), (6, .int ow), (7, .int (nI k))]) hx hb dX4_ownersOf_41 hl (by decide) rfl (fun ls hl => ?_)
        refine lv_aload_n hx hb dX4_ownersOf_43 rfl (lv_at hl 1 rfl) ?_
        refine lv_iload hx hb dX4_ownersOf_44 (lv_at hl 8 rfl) ?_
        refine lv_iload_n hx hb dX4_ownersOf_46 rfl (lv_at hl 2 rfl) ?_
        refine vp_callSi (W.runV (As := [.int (nI k), .int a]) (rest := []) ⟨hx, hb, hml, hown, hts⟩ (c_X4_isForbidden l dC dI ad cI cZ z v f (nI k) a hok (by first | assumption | omega | exact vp_in_nI (by omega) (by omega))) (cwV 2 hts gX4_ownersOf_X4_isForbidden rfl rfl rfl (by decide +kernel) ⟨Nat.le_of_ble_eq_true rfl, Nat.le_of_ble_eq_true rfl⟩) (preX (ci := 4) (q0 := 0) hP hK hN rfl rfl rfl) rfl rfl hl.1 rfl (lv_room (Nat.le_of_ble_eq_true rfl)) dX4_ownersOf_47 ⟨Nat.zero_le _, Nat.zero_le _⟩) (fun r5 h9 => ?_)
        obtain rfl : r5 = F_X4_isForbidden z v f (nI k) a := h9
        refine lv_if_ne (tgt := 71) hx hb dX4_ownersOf_50 (by decide) (fun c6 => ?_) (fun c6 => ?_)
        · rw [if_neg c6] at hF18
          refine lv_iinc (v := nI (k + 1)) (lv' := [(7, .int (nI (k + 1))), (8, .int ((F_X4_bit (nI k)) ||| (F_X4_groupsAmong z v f (nI k) aw))), (0, .ref (ad 0)), (1, .int a), (2, .int pl), (3, .int day), (4, .int aw), (5, .int (F_X2_tradersWith z v f a pl day)), (6, .int ow)]) hx hb dX4_ownersOf_71 hl (k := 8) rfl (xi_inc _) (by decide) rfl (fun ls hl => ?_)
          refine lv_goto (tgt := 18) hx hb dX4_ownersOf_74 (by decide) ?_
          exact ih18 ow (k + 1) ls (by omega) (by omega) (lv_sub hl [2, 3, 4, 5, 6, 7, 8, 0] rfl) (by rw [hF18]; exact hq18)
        · rw [if_pos c6] at hF18
          refine lv_iload hx hb dX4_ownersOf_53 (lv_at hl 0 rfl) ?_
          refine lv_iload hx hb dX4_ownersOf_55 (lv_at hl 6 rfl) ?_
          refine lv_iand hx hb dX4_ownersOf_57 ?_
          refine lv_if_eq (tgt := 71) hx hb dX4_ownersOf_58 (by decide) (fun c7 => ?_) (fun c7 => ?_)
          · rw [if_pos c7] at hF18
            refine lv_iinc (v := nI (k + 1)) (lv' := [(7, .int (nI (k + 1))), (8, .int ((F_X4_bit (nI k)) ||| (F_X4_groupsAmong z v f (nI k) aw))), (0, .ref (ad 0)), (1, .int a), (2, .int pl), (3, .int day), (4, .int aw), (5, .int (F_X2_tradersWith z v f a pl day)), (6, .int ow)]) hx hb dX4_ownersOf_71 hl (k := 8) rfl (xi_inc _) (by decide) rfl (fun ls hl => ?_)
            refine lv_goto (tgt := 18) hx hb dX4_ownersOf_74 (by decide) ?_
            exact ih18 ow (k + 1) ls (by omega) (by omega) (lv_sub hl [2, 3, 4, 5, 6, 7, 8, 0] rfl) (by rw [hF18]; exact hq18)
          · rw [if_neg c7] at hF18
            refine lv_iload hx hb dX4_ownersOf_61 (lv_at hl 7 rfl) ?_
            refine lv_iload hx hb dX4_ownersOf_63 (lv_at hl 8 rfl) ?_
            refine vp_callSi (W.runS (As := [.int (nI k)]) (rest := [.int ow]) ⟨hx, hb, hml, hown, hts⟩ (c_X4_bit l (nI k)) (cwS 1 hts gX4_ownersOf_X4_bit rfl rfl rfl (by decide +kernel) ⟨Nat.le_of_ble_eq_true rfl, Nat.le_of_ble_eq_true rfl⟩) preT rfl rfl hl.1 rfl (lv_room (Nat.le_of_ble_eq_true rfl)) dX4_ownersOf_65 ⟨Nat.zero_le _, Nat.zero_le _⟩) (fun r8 h9 => ?_)
            obtain rfl : r8 = F_X4_bit (nI k) := h9
            refine lv_ior hx hb dX4_ownersOf_68 ?_
            refine lv_istore (lv' := [(6, .int (ow ||| (F_X4_bit (nI k)))), (8, .int ((F_X4_bit (nI k)) ||| (F_X4_groupsAmong z v f (nI k) aw))), (0, .ref (ad 0)), (1, .int a), (2, .int pl), (3, .int day), (4, .int aw), (5, .int (F_X2_tradersWith z v f a pl day)), (7, .int (nI k))]) hx hb dX4_ownersOf_69 hl (by decide) rfl (fun ls hl => ?_)
            refine lv_iinc (v := nI (k + 1)) (lv' := [(7, .int (nI (k + 1))), (6, .int (ow ||| (F_X4_bit (nI k)))), (8, .int ((F_X4_bit (nI k)) ||| (F_X4_groupsAmong z v f (nI k) aw))), (0, .ref (ad 0)), (1, .int a), (2, .int pl), (3, .int day), (4, .int aw), (5, .int (F_X2_tradersWith z v f a pl day))]) hx hb dX4_ownersOf_71 hl (k := 8) rfl (xi_inc _) (by decide) rfl (fun ls hl => ?_)
            refine lv_goto (tgt := 18) hx hb dX4_ownersOf_74 (by decide) ?_
            exact ih18 (ow ||| (F_X4_bit (nI k))) (k + 1) ls (by omega) (by omega) (lv_sub hl [3, 4, 5, 6, 7, 8, 1, 0] rfl) (by rw [hF18]; exact hq18)
  refine lp18 (z 0 + 1) 0 0 ls (by omega) (by omega) (lv_sub hl [3, 4, 5, 6, 7, 2, 1, 0] rfl) (fun ls hl => ?_)
  refine lv_iload hx hb dX4_ownersOf_77 (lv_at hl 6 rfl) ?_
  subst hQ9
  exact W.iret hx hb hr (fun t ht hW => ⟨_, rfl, hF, ht⟩) (fun q h => by cases h) dX4_ownersOf_79
def F_X4_ownActs (z : Nat → Nat) (v : Nat → Int32) (f : Nat → Nat → Int32) (t day : Int32) : Int32 :=
  (F_X2_actsOf z v f ((F_X4_bit t) ||| (F_X4_groupsAmong z v f t (F_X4_aliveOn z v f day))) day) &&& ((f 1 t.toNatClampNeg) ^^^ (-1))
set_option maxHeartbeats 4000000 in
set_option maxRecDepth 100000 in
theorem c_X4_ownActs (l : Launch) (dC : Nat → ClassId) (dI : Nat → Nat → Nat) (ad : Nat → Nat) (cI cZ : ClassId) (z : Nat → Nat) (v : Nat → Int32) (f : Nat → Nat → Int32) (t day : Int32) (hok : okX z v f) (ht : vp_in t 12) : Met l yX4_ownActs wsX4_ownActs ({ frames := 3, cells := 0, slots := 0, locals := 68 }) (va_Pc [.ref (ad 0), .int t, .int day] (kX dC dI ad cI cZ z v f)) (vp_Si (fun r => r = F_X4_ownActs z v f t day)) 0 0 (fun _ => False) := by
  refine Met.ofW (cc := cX4_ownActs) (maxL := 4) (ret := (some .int)) (by decide) rfl ?_
  intro p e s m args below meth c s₁ B hml hv
  obtain ⟨rfl, hP, hK, hN⟩ := hv
  have hx := B.exec
  have hb := B.bytes
  have hr := B.returns
  have hts := atoms_spec (ws := wsX4_ownActs) B.pre
  have hown : s.vm.findClass RX4 = some m.cls := findClass_of_methodNamed B.named
  have hlocks := B.notSynchronized
  have hok9 := hok
  obtain ⟨hz0, hz1, hz2, hz3, hz4, hbz, hbs⟩ := hok9
  have hfl20 := hts (.fieldLink RX4 20 "TraderRights" "forbiddenActs" "[I") (by decide +kernel)
  have hfl41 := hts (.fieldLink RX4 41 "TraderRights" "rights" "LTraderRights$Rights;") (by decide +kernel)
  have himX2_actsOf := hts (.instanceMethod yX2_actsOf) (by decide +kernel)
  have hinX4 : ∀ w ∈ u_ws RX4 TX4 11, w ∈ wsX4_ownActs := by decide +kernel
  have hiniX2 := hts (.initialized RX2) (by decide +kernel)
  have hnw208 := hN (.methodLinkNest RX4 208 yX2_actsOf "TraderRights") (by decide +kernel)
  have hseX2_actsOf := hts (.selects RX2 yX2_actsOf yX2_actsOf) (by decide +kernel)
  have hl := lv_entry ([.ref (ad 0), .int t, .int day]) (n := 4) (Nat.le_of_ble_eq_true rfl)
  rw [lg_entry_eq]
  generalize (lg_sl ([.ref (ad 0), .int t, .int day]) ++ List.replicate (4 - (lg_sl ([.ref (ad 0), .int t, .int day])).length) Slot.unset).toArray = ls at hl ⊢
  have hl : lv_has ls 4 [(0, .ref (ad 0)), (1, .int t), (2, .int day)] := hl
  generalize hF : F_X4_ownActs z v f t day = R9
  generalize hQ9 : MQ below (vp_Si (fun r => r = R9)) _ s 0 0 (fun _ => False) = Q9
  rw [F_X4_ownActs] at hF
  refine lv_iload_n hx hb dX4_ownActs_0 rfl (lv_at hl 1 rfl) ?_
  refine vp_callSi (W.runS (As := [.int t]) (rest := []) ⟨hx, hb, hml, hown, hts⟩ (c_X4_bit l t) (cwS 1 hts gX4_ownActs_X4_bit rfl rfl rfl (by decide +kernel) ⟨Nat.le_of_ble_eq_true rfl, Nat.le_of_ble_eq_true rfl⟩) preT rfl rfl hl.1 rfl (lv_room (Nat.le_of_ble_eq_true rfl)) dX4_ownActs_1 ⟨Nat.zero_le _, Nat.zero_le _⟩) (fun r1 h9 => ?_)
  obtain rfl : r1 = F_X4_bit t := h9
  refine lv_aload_n hx hb dX4_ownActs_4 rfl (lv_at hl 0 rfl) ?_
  refine lv_iload_n hx hb dX4_ownActs_5 rfl (lv_at hl 1 rfl) ?_
  refine lv_aload_n hx hb dX4_ownActs_6 rfl (lv_at hl 0 rfl) ?_
  refine lv_iload_n hx hb dX4_ownActs_7 rfl (lv_at hl 2 rfl) ?_
  refine vp_callSi (W.runV (As := [.int day]) (rest := [.int t, .ref (ad 0), .int (F_X4_bit t)]) ⟨hx, hb, hml, hown, hts⟩ (c_X4_aliveOn l dC dI ad cI cZ z v f day hok) (cwV 1 hts gX4_ownActs_X4_aliveOn rfl rfl rfl (by decide +kernel) ⟨Nat.le_of_ble_eq_true rfl, Nat.le_of_ble_eq_true rfl⟩) (preX (ci := 4) (q0 := 0) hP hK hN rfl rfl rfl) rfl rfl hl.1 rfl (lv_room (Nat.le_of_ble_eq_true rfl)) dX4_ownActs_8 ⟨Nat.zero_le _, Nat.zero_le _⟩) (fun r2 h9 => ?_)
  obtain rfl : r2 = F_X4_aliveOn z v f day := h9
  refine vp_callSi (W.runV (As := [.int t, .int (F_X4_aliveOn z v f day)]) (rest := [.int (F_X4_bit t)]) ⟨hx, hb, hml, hown, hts⟩ (c_X4_groupsAmong l dC dI ad cI cZ z v f t (F_X4_aliveOn z v f day) hok (by first | assumption | omega | exact vp_in_nI (by omega) (by omega))) (cwV 2 hts gX4_ownActs_X4_groupsAmong rfl rfl rfl (by decide +kernel) ⟨Nat.le_of_ble_eq_true rfl, Nat.le_of_ble_eq_true rfl⟩) (preX (ci := 4) (q0 := 0) hP hK hN rfl rfl rfl) rfl rfl hl.1 rfl (lv_room (Nat.le_of_ble_eq_true rfl)) dX4_ownActs_11 ⟨Nat.zero_le _, Nat.zero_le _⟩) (fun r3 h9 => ?_)
  obtain rfl : r3 = F_X4_groupsAmong z v f t (F_X4_aliveOn z v f day) := h9
  refine lv_ior hx hb dX4_ownActs_14 ?_
  refine lv_istore_n (lv' := [(3, .int ((F_X4_bit t) ||| (F_X4_groupsAmong z v f t (F_X4_aliveOn z v f day)))), (0, .ref (ad 0)), (1, .int t), (2, .int day)]) hx hb dX4_ownActs_15 rfl hl (by decide) rfl (fun ls hl => ?_)
  refine lv_aload_n hx hb dX4_ownActs_16 rfl (lv_at hl 1 rfl) ?_
  refine va_get (D := (dC, dI)) (ci := 4) (v := .ref (ad 6)) (C := RX4) (T := TX4) (N := 11) hx hb hts hinX4 hown hK hP 0 rfl rfl 7 (by decide) hfl41 (fun _ h9 => h9) rfl dX4_ownActs_17 ?_
  refine lv_iload_n hx hb dX4_ownActs_20 rfl (lv_at hl 0 rfl) ?_
  refine lv_iload_n hx hb dX4_ownActs_21 rfl (lv_at hl 3 rfl) ?_
  refine vp_callSi (va_Run.run (va_runVN (As := [.int ((F_X4_bit t) ||| (F_X4_groupsAmong z v f t (F_X4_aliveOn z v f day))), .int day]) (rest := []) ⟨hx, hb, hml, hown, hts⟩ (c_X2_actsOf l dC dI ad cI cZ z v f ((F_X4_bit t) ||| (F_X4_groupsAmong z v f t (F_X4_aliveOn z v f day))) day hok) ⟨(va_cnB 2 hts gX4_ownActs_X2_actsOf_n208 rfl rfl rfl hnw208 hiniX2 (by decide +kernel) ⟨Nat.le_of_ble_eq_true rfl, Nat.le_of_ble_eq_true rfl⟩), himX2_actsOf, hseX2_actsOf⟩ (preX (ci := 2) (q0 := 6) hP hK hN rfl rfl rfl) rfl rfl hl.1 rfl (lv_room (Nat.le_of_ble_eq_true rfl)) dX4_ownActs_22 ⟨Nat.zero_le _, Nat.zero_le _⟩)) (fun r4 h9 => ?_)
  obtain rfl : r4 = F_X2_actsOf z v f ((F_X4_bit t) ||| (F_X4_groupsAmong z v f t (F_X4_aliveOn z v f day))) day := h9
  refine lv_aload_n hx hb dX4_ownActs_25 rfl (lv_at hl 1 rfl) ?_
  refine va_get (D := (dC, dI)) (ci := 4) (v := .ref (ad 2)) (C := RX4) (T := TX4) (N := 11) hx hb hts hinX4 hown hK hP 0 rfl rfl 3 (by decide) hfl20 (fun _ h9 => h9) rfl dX4_ownActs_26 ?_
  refine lv_iload_n hx hb dX4_ownActs_29 rfl (lv_at hl 2 rfl) ?_
  refine va_iald hx hb hK hP 2 0 rfl rfl (by assumption) dX4_ownActs_30 ?_
  refine lv_iconst (v := (-1)) hx hb dX4_ownActs_31 (by decide) ?_
  refine lv_ixor hx hb dX4_ownActs_32 ?_
  refine lv_iand hx hb dX4_ownActs_33 ?_
  subst hQ9
  exact W.iret hx hb hr (fun t ht hW => ⟨_, rfl, hF, ht⟩) (fun q h => by cases h) dX4_ownActs_34
def F_X4_answerForAlive (z : Nat → Nat) (v : Nat → Int32) (f : Nat → Nat → Int32) (t a pl day : Int32) : Int32 :=
  if F_X4_holds (F_X4_ownersOf z v f a pl day (F_X4_aliveOn z v f day)) t = 0 then
    if (((F_X4_ownersOf z v f a pl day (F_X4_aliveOn z v f day)) &&& ((F_X4_principalSet z v f t) ||| (F_X0_giversTo z v f t 1 day))) &&& (F_X4_aliveOn z v f day)) = 0 then
      if (((F_X4_ownersOf z v f a pl day (F_X4_aliveOn z v f day)) &&& (F_X0_giversTo z v f t 0 day)) &&& (F_X4_aliveOn z v f day)) = 0 then
        if F_X4_isForbidden z v f t a = 0 then
          if (((F_X4_ownersOf z v f a pl day (F_X4_aliveOn z v f day)) &&& (F_X0_giversTo z v f t 0 day)) &&& (F_X4_aliveOn z v f day)) = 0 then
            if (((F_X4_ownersOf z v f a pl day (F_X4_aliveOn z v f day)) &&& ((F_X4_principalSet z v f t) ||| (F_X0_giversTo z v f t 1 day))) ||| ((F_X4_ownersOf z v f a pl day (F_X4_aliveOn z v f day)) &&& (F_X0_giversTo z v f t 0 day))) = 0 then
              7
            else
              6
          else
            5
        else
          4
      else
        if F_X4_holds (F_X4_ownersOf z v f 0 pl day (F_X4_aliveOn z v f day)) t = 0 then
          if F_X4_isForbidden z v f t a = 0 then
            if (((F_X4_ownersOf z v f a pl day (F_X4_aliveOn z v f day)) &&& (F_X0_giversTo z v f t 0 day)) &&& (F_X4_aliveOn z v f day)) = 0 then
              if (((F_X4_ownersOf z v f a pl day (F_X4_aliveOn z v f day)) &&& ((F_X4_principalSet z v f t) ||| (F_X0_giversTo z v f t 1 day))) ||| ((F_X4_ownersOf z v f a pl day (F_X4_aliveOn z v f day)) &&& (F_X0_giversTo z v f t 0 day))) = 0 then
                7
              else
                6
            else
              5
          else
            4
        else
          0
    else
      0
  else
    0
set_option maxHeartbeats 4000000 in
set_option maxRecDepth 100000 in
theorem c_X4_answerForAlive (l : Launch) (dC : Nat → ClassId) (dI : Nat → Nat → Nat) (ad : Nat → Nat) (cI cZ : ClassId) (z : Nat → Nat) (v : Nat → Int32) (f : Nat → Nat → Int32) (t a pl day : Int32) (hok : okX z v f) (ht : vp_in t 12) : Met l yX4_answerForAlive wsX4_answerForAlive ({ frames := 4, cells := 0, slots := 0, locals := 96 }) (va_Pc [.ref (ad 0), .int t, .int a, .int pl, .int day] (kX dC dI ad cI cZ z v f)) (vp_Si (fun r => r = F_X4_answerForAlive z v f t a pl day)) 0 0 (fun _ => False) := by
  refine Met.ofW (cc := cX4_answerForAlive) (maxL := 9) (ret := (some .int)) (by decide) rfl ?_
  intro p e s m args below meth c s₁ B hml hv
  obtain ⟨rfl, hP, hK, hN⟩ := hv
  have hx := B.exec
  have hb := B.bytes
  have hr := B.returns
  have hts := atoms_spec (ws := wsX4_answerForAlive) B.pre
  have hown : s.vm.findClass RX4 = some m.cls := findClass_of_methodNamed B.named
  have hlocks := B.notSynchronized
  have hok9 := hok
  obtain ⟨hz0, hz1, hz2, hz3, hz4, hbz, hbs⟩ := hok9
  have hfl48 := hts (.fieldLink RX4 48 "TraderRights" "mandates" "LTraderRights$Mandates;") (by decide +kernel)
  have himX0_giversTo := hts (.instanceMethod yX0_giversTo) (by decide +kernel)
  have hinX4 : ∀ w ∈ u_ws RX4 TX4 11, w ∈ wsX4_answerForAlive := by decide +kernel
  have hiniX0 := hts (.initialized RX0) (by decide +kernel)
  have hnw217 := hN (.methodLinkNest RX4 217 yX0_giversTo "TraderRights") (by decide +kernel)
  have hseX0_giversTo := hts (.selects RX0 yX0_giversTo yX0_giversTo) (by decide +kernel)
  have hl := lv_entry ([.ref (ad 0), .int t, .int a, .int pl, .int day]) (n := 9) (Nat.le_of_ble_eq_true rfl)
  rw [lg_entry_eq]
  generalize (lg_sl ([.ref (ad 0), .int t, .int a, .int pl, .int day]) ++ List.replicate (9 - (lg_sl ([.ref (ad 0), .int t, .int a, .int pl, .int day])).length) Slot.unset).toArray = ls at hl ⊢
  have hl : lv_has ls 9 [(0, .ref (ad 0)), (1, .int t), (2, .int a), (3, .int pl), (4, .int day)] := hl
  generalize hF : F_X4_answerForAlive z v f t a pl day = R9
  generalize hQ9 : MQ below (vp_Si (fun r => r = R9)) _ s 0 0 (fun _ => False) = Q9
  rw [F_X4_answerForAlive] at hF
  refine lv_aload_n hx hb dX4_answerForAlive_0 rfl (lv_at hl 0 rfl) ?_
  refine lv_iload hx hb dX4_answerForAlive_1 (lv_at hl 4 rfl) ?_
  refine vp_callSi (W.runV (As := [.int day]) (rest := []) ⟨hx, hb, hml, hown, hts⟩ (c_X4_aliveOn l dC dI ad cI cZ z v f day hok) (cwV 1 hts gX4_answerForAlive_X4_aliveOn rfl rfl rfl (by decide +kernel) ⟨Nat.le_of_ble_eq_true rfl, Nat.le_of_ble_eq_true rfl⟩) (preX (ci := 4) (q0 := 0) hP hK hN rfl rfl rfl) rfl rfl hl.1 rfl (lv_room (Nat.le_of_ble_eq_true rfl)) dX4_answerForAlive_3 ⟨Nat.zero_le _, Nat.zero_le _⟩) (fun r1 h9 => ?_)
  obtain rfl : r1 = F_X4_aliveOn z v f day := h9
  refine lv_istore (lv' := [(5, .int (F_X4_aliveOn z v f day)), (0, .ref (ad 0)), (1, .int t), (2, .int a), (3, .int pl), (4, .int day)]) hx hb dX4_answerForAlive_6 hl (by decide) rfl (fun ls hl => ?_)
  refine lv_aload_n hx hb dX4_answerForAlive_8 rfl (lv_at hl 1 rfl) ?_
  refine lv_iload_n hx hb dX4_answerForAlive_9 rfl (lv_at hl 3 rfl) ?_
  refine lv_iload_n hx hb dX4_answerForAlive_10 rfl (lv_at hl 4 rfl) ?_
  refine lv_iload hx hb dX4_answerForAlive_11 (lv_at hl 5 rfl) ?_
  refine lv_iload hx hb dX4_answerForAlive_13 (lv_at hl 0 rfl) ?_
  refine vp_callSi (W.runV (As := [.int a, .int pl, .int day, .int (F_X4_aliveOn z v f day)]) (rest := []) ⟨hx, hb, hml, hown, hts⟩ (c_X4_ownersOf l dC dI ad cI cZ z v f a pl day (F_X4_aliveOn z v f day) hok) (cwV 4 hts gX4_answerForAlive_X4_ownersOf rfl rfl rfl (by decide +kernel) ⟨Nat.le_of_ble_eq_true rfl, Nat.le_of_ble_eq_true rfl⟩) (preX (ci := 4) (q0 := 0) hP hK hN rfl rfl rfl) rfl rfl hl.1 rfl (lv_room (Nat.le_of_ble_eq_true rfl)) dX4_answerForAlive_15 ⟨Nat.zero_le _, Nat.zero_le _⟩) (fun r2 h9 => ?_)
  obtain rfl : r2 = F_X4_ownersOf z v f a pl day (F_X4_aliveOn z v f day) := h9
  refine lv_istore (lv' := [(6, .int (F_X4_ownersOf z v f a pl day (F_X4_aliveOn z v f day))), (5, .int (F_X4_aliveOn z v f day)), (0, .ref (ad 0)), (1, .int t), (2, .int a), (3, .int pl), (4, .int day)]) hx hb dX4_answerForAlive_18 hl (by decide) rfl (fun ls hl => ?_)
  refine lv_iload hx hb dX4_answerForAlive_20 (lv_at hl 0 rfl) ?_
  refine lv_iload_n hx hb dX4_answerForAlive_22 rfl (lv_at hl 3 rfl) ?_
  refine vp_callSi (W.runS (As := [.int (F_X4_ownersOf z v f a pl day (F_X4_aliveOn z v f day)), .int t]) (rest := []) ⟨hx, hb, hml, hown, hts⟩ (c_X4_holds l (F_X4_ownersOf z v f a pl day (F_X4_aliveOn z v f day)) t) (cwS 2 hts gX4_answerForAlive_X4_holds rfl rfl rfl (by decide +kernel) ⟨Nat.le_of_ble_eq_true rfl, Nat.le_of_ble_eq_true rfl⟩) preT rfl rfl hl.1 rfl (lv_room (Nat.le_of_ble_eq_true rfl)) dX4_answerForAlive_23 ⟨Nat.zero_le _, Nat.zero_le _⟩) (fun r3 h9 => ?_)
  obtain rfl : r3 = F_X4_holds (F_X4_ownersOf z v f a pl day (F_X4_aliveOn z v f day)) t := h9
  refine lv_if_eq (tgt := 31) hx hb dX4_answerForAlive_26 (by decide) (fun c4 => ?_) (fun c4 => ?_)
  · rw [if_pos c4] at hF
    refine lv_iload hx hb dX4_answerForAlive_31 (lv_at hl 0 rfl) ?_
    refine lv_aload_n hx hb dX4_answerForAlive_33 rfl (lv_at hl 2 rfl) ?_
    refine lv_iload_n hx hb dX4_answerForAlive_34 rfl (lv_at hl 3 rfl) ?_
    refine vp_callSi (W.runV (As := [.int t]) (rest := [.int (F_X4_ownersOf z v f a pl day (F_X4_aliveOn z v f day))]) ⟨hx, hb, hml, hown, hts⟩ (c_X4_principalSet l dC dI ad cI cZ z v f t hok (by first | assumption | omega | exact vp_in_nI (by omega) (by omega))) (cwV 1 hts gX4_answerForAlive_X4_principalSet rfl rfl rfl (by decide +kernel) ⟨Nat.le_of_ble_eq_true rfl, Nat.le_of_ble_eq_true rfl⟩) (preX (ci := 4) (q0 := 0) hP hK hN rfl rfl rfl) rfl rfl hl.1 rfl (lv_room (Nat.le_of_ble_eq_true rfl)) dX4_answerForAlive_35 ⟨Nat.zero_le _, Nat.zero_le _⟩) (fun r5 h9 => ?_)
    obtain rfl : r5 = F_X4_principalSet z v f t := h9
    refine lv_aload_n hx hb dX4_answerForAlive_38 rfl (lv_at hl 2 rfl) ?_
    refine va_get (D := (dC, dI)) (ci := 4) (v := .ref (ad 12)) (C := RX4) (T := TX4) (N := 11) hx hb hts hinX4 hown hK hP 0 rfl rfl 8 (by decide) hfl48 (fun _ h9 => h9) rfl dX4_answerForAlive_39 ?_
    refine lv_iload_n hx hb dX4_answerForAlive_42 rfl (lv_at hl 3 rfl) ?_
    refine lv_iconst (v := 1) hx hb dX4_answerForAlive_43 (by decide) ?_
    refine lv_iload hx hb dX4_answerForAlive_44 (lv_at hl 6 rfl) ?_
    refine vp_callSi (va_Run.run (va_runVN (As := [.int t, .int 1, .int day]) (rest := [.int (F_X4_principalSet z v f t), .int (F_X4_ownersOf z v f a pl day (F_X4_aliveOn z v f day))]) ⟨hx, hb, hml, hown, hts⟩ (c_X0_giversTo l dC dI ad cI cZ z v f t 1 day hok) ⟨(va_cnB 3 hts gX4_answerForAlive_X0_giversTo_n217 rfl rfl rfl hnw217 hiniX0 (by decide +kernel) ⟨Nat.le_of_ble_eq_true rfl, Nat.le_of_ble_eq_true rfl⟩), himX0_giversTo, hseX0_giversTo⟩ (preX (ci := 0) (q0 := 12) hP hK hN rfl rfl rfl) rfl rfl hl.1 rfl (lv_room (Nat.le_of_ble_eq_true rfl)) dX4_answerForAlive_46 ⟨Nat.zero_le _, Nat.zero_le _⟩)) (fun r6 h9 => ?_)
    obtain rfl : r6 = F_X0_giversTo z v f t 1 day := h9
    refine lv_ior hx hb dX4_answerForAlive_49 ?_
    refine lv_iand hx hb dX4_answerForAlive_50 ?_
    refine lv_istore (lv' := [(7, .int ((F_X4_ownersOf z v f a pl day (F_X4_aliveOn z v f day)) &&& ((F_X4_principalSet z v f t) ||| (F_X0_giversTo z v f t 1 day)))), (6, .int (F_X4_ownersOf z v f a pl day (F_X4_aliveOn z v f day))), (5, .int (F_X4_aliveOn z v f day)), (0, .ref (ad 0)), (1, .int t), (2, .int a), (3, .int pl), (4, .int day)]) hx hb dX4_answerForAlive_51 hl (by decide) rfl (fun ls hl => ?_)
    refine lv_iload hx hb dX4_answerForAlive_53 (lv_at hl 1 rfl) ?_
    refine lv_aload_n hx hb dX4_answerForAlive_55 rfl (lv_at hl 3 rfl) ?_
    refine va_get (D := (dC, dI)) (ci := 4) (v := .ref (ad 12)) (C := RX4) (T := TX4) (N := 11) hx hb hts hinX4 hown hK hP 0 rfl rfl 8 (by decide) hfl48 (fun _ h9 => h9) rfl dX4_answerForAlive_56 ?_
    refine lv_iload_n hx hb dX4_answerForAlive_59 rfl (lv_at hl 4 rfl) ?_
    refine lv_iconst (v := 0) hx hb dX4_answerForAlive_60 (by decide) ?_
    refine lv_iload hx hb dX4_answerForAlive_61 (lv_at hl 7 rfl) ?_
    refine vp_callSi (va_Run.run (va_runVN (As := [.int t, .int 0, .int day]) (rest := [.int (F_X4_ownersOf z v f a pl day (F_X4_aliveOn z v f day))]) ⟨hx, hb, hml, hown, hts⟩ (c_X0_giversTo l dC dI ad cI cZ z v f t 0 day hok) ⟨(va_cnB 3 hts gX4_answerForAlive_X0_giversTo_n217 rfl rfl rfl hnw217 hiniX0 (by decide +kernel) ⟨Nat.le_of_ble_eq_true rfl, Nat.le_of_ble_eq_true rfl⟩), himX0_giversTo, hseX0_giversTo⟩ (preX (ci := 0) (q0 := 12) hP hK hN rfl rfl rfl) rfl rfl hl.1 rfl (lv_room (Nat.le_of_ble_eq_true rfl)) dX4_answerForAlive_63 ⟨Nat.zero_le _, Nat.zero_le _⟩)) (fun r7 h9 => ?_)
    obtain rfl : r7 = F_X0_giversTo z v f t 0 day := h9
    refine lv_iand hx hb dX4_answerForAlive_66 ?_
    refine lv_istore (lv' := [(8, .int ((F_X4_ownersOf z v f a pl day (F_X4_aliveOn z v f day)) &&& (F_X0_giversTo z v f t 0 day))), (7, .int ((F_X4_ownersOf z v f a pl day (F_X4_aliveOn z v f day)) &&& ((F_X4_principalSet z v f t) ||| (F_X0_giversTo z v f t 1 day)))), (6, .int (F_X4_ownersOf z v f a pl day (F_X4_aliveOn z v f day))), (5, .int (F_X4_aliveOn z v f day)), (0, .ref (ad 0)), (1, .int t), (2, .int a), (3, .int pl), (4, .int day)]) hx hb dX4_answerForAlive_67 hl (by decide) rfl (fun ls hl => ?_)
    refine lv_iload hx hb dX4_answerForAlive_69 (lv_at hl 1 rfl) ?_
    refine lv_iload hx hb dX4_answerForAlive_71 (lv_at hl 3 rfl) ?_
    refine lv_iand hx hb dX4_answerForAlive_73 ?_
    refine lv_if_eq (tgt := 79) hx hb dX4_answerForAlive_74 (by decide) (fun c8 => ?_) (fun c8 => ?_)
    · rw [if_pos c8] at hF
      refine lv_iload hx hb dX4_answerForAlive_79 (lv_at hl 0 rfl) ?_
      refine lv_iload hx hb dX4_answerForAlive_81 (lv_at hl 3 rfl) ?_
      refine lv_iand hx hb dX4_answerForAlive_83 ?_
      refine lv_if_eq (tgt := 106) hx hb dX4_answerForAlive_84 (by decide) (fun c9 => ?_) (fun c9 => ?_)
      · rw [if_pos c9] at hF
        refine lv_aload_n hx hb dX4_answerForAlive_106 rfl (lv_at hl 4 rfl) ?_
        refine lv_iload_n hx hb dX4_answerForAlive_107 rfl (lv_at hl 5 rfl) ?_
        refine lv_iload_n hx hb dX4_answerForAlive_108 rfl (lv_at hl 6 rfl) ?_
        refine vp_callSi (W.runV (As := [.int t, .int a]) (rest := []) ⟨hx, hb, hml, hown, hts⟩ (c_X4_isForbidden l dC dI ad cI cZ z v f t a hok (by first | assumption | omega | exact vp_in_nI (by omega) (by omega))) (cwV 2 hts gX4_answerForAlive_X4_isForbidden rfl rfl rfl (by decide +kernel) ⟨Nat.le_of_ble_eq_true rfl, Nat.le_of_ble_eq_true rfl⟩) (preX (ci := 4) (q0 := 0) hP hK hN rfl rfl rfl) rfl rfl hl.1 rfl (lv_room (Nat.le_of_ble_eq_true rfl)) dX4_answerForAlive_109 ⟨Nat.zero_le _, Nat.zero_le _⟩) (fun r10 h9 => ?_)
        obtain rfl : r10 = F_X4_isForbidden z v f t a := h9
        refine lv_if_eq (tgt := 117) hx hb dX4_answerForAlive_112 (by decide) (fun c11 => ?_) (fun c11 => ?_)
        · rw [if_pos c11] at hF
          refine lv_iload hx hb dX4_answerForAlive_117 (lv_at hl 0 rfl) ?_
          refine lv_iload hx hb dX4_answerForAlive_119 (lv_at hl 3 rfl) ?_
          refine lv_iand hx hb dX4_answerForAlive_121 ?_
          refine lv_if_eq (tgt := 127) hx hb dX4_answerForAlive_122 (by decide) (fun c12 => ?_) (fun c12 => ?_)
          · rw [if_pos c12] at hF
            refine lv_iload hx hb dX4_answerForAlive_127 (lv_at hl 1 rfl) ?_
            refine lv_iload hx hb dX4_answerForAlive_129 (lv_at hl 0 rfl) ?_
            refine lv_ior hx hb dX4_answerForAlive_131 ?_
            refine lv_if_eq (tgt := 140) hx hb dX4_answerForAlive_132 (by decide) (fun c13 => ?_) (fun c13 => ?_)
            · rw [if_pos c13] at hF
              refine lv_bipush (v := 7) hx hb dX4_answerForAlive_140 (by decide) ?_
              subst hQ9
              exact W.iret hx hb hr (fun t ht hW => ⟨_, rfl, hF, ht⟩) (fun q h => by cases h) dX4_answerForAlive_142
            · rw [if_neg c13] at hF
              refine lv_bipush (v := 6) hx hb dX4_answerForAlive_135 (by decide) ?_
              refine lv_goto (tgt := 142) hx hb dX4_answerForAlive_137 (by decide) ?_
              subst hQ9
              exact W.iret hx hb hr (fun t ht hW => ⟨_, rfl, hF, ht⟩) (fun q h => by cases h) dX4_answerForAlive_142
          · rw [if_neg c12] at hF
            refine lv_iconst (v := 5) hx hb dX4_answerForAlive_125 (by decide) ?_
            subst hQ9
            exact W.iret hx hb hr (fun t ht hW => ⟨_, rfl, hF, ht⟩) (fun q h => by cases h) dX4_answerForAlive_126
        · rw [if_neg c11] at hF
          refine lv_iconst (v := 4) hx hb dX4_answerForAlive_115 (by decide) ?_
          subst hQ9
          exact W.iret hx hb hr (fun t ht hW => ⟨_, rfl, hF, ht⟩) (fun q h => by cases h) dX4_answerForAlive_116
      · rw [if_neg c9] at hF
        refine lv_aload_n hx hb dX4_answerForAlive_87 rfl (lv_at hl 4 rfl) ?_
        refine lv_iconst (v := 0) hx hb dX4_answerForAlive_88 (by decide) ?_
        refine lv_iload_n hx hb dX4_answerForAlive_89 rfl (lv_at hl 7 rfl) ?_
        refine lv_iload hx hb dX4_answerForAlive_90 (lv_at hl 8 rfl) ?_
        refine lv_iload hx hb dX4_answerForAlive_92 (lv_at hl 3 rfl) ?_
        refine vp_callSi (W.runV (As := [.int 0, .int pl, .int day, .int (F_X4_aliveOn z v f day)]) (rest := []) ⟨hx, hb, hml, hown, hts⟩ (c_X4_ownersOf l dC dI ad cI cZ z v f 0 pl day (F_X4_aliveOn z v f day) hok) (cwV 4 hts gX4_answerForAlive_X4_ownersOf rfl rfl rfl (by decide +kernel) ⟨Nat.le_of_ble_eq_true rfl, Nat.le_of_ble_eq_true rfl⟩) (preX (ci := 4) (q0 := 0) hP hK hN rfl rfl rfl) rfl rfl hl.1 rfl (lv_room (Nat.le_of_ble_eq_true rfl)) dX4_answerForAlive_94 ⟨Nat.zero_le _, Nat.zero_le _⟩) (fun r14 h9 => ?_)
        obtain rfl : r14 = F_X4_ownersOf z v f 0 pl day (F_X4_aliveOn z v f day) := h9
        refine lv_iload_n hx hb dX4_answerForAlive_97 rfl (lv_at hl 5 rfl) ?_
        refine vp_callSi (W.runS (As := [.int (F_X4_ownersOf z v f 0 pl day (F_X4_aliveOn z v f day)), .int t]) (rest := []) ⟨hx, hb, hml, hown, hts⟩ (c_X4_holds l (F_X4_ownersOf z v f 0 pl day (F_X4_aliveOn z v f day)) t) (cwS 2 hts gX4_answerForAlive_X4_holds rfl rfl rfl (by decide +kernel) ⟨Nat.le_of_ble_eq_true rfl, Nat.le_of_ble_eq_true rfl⟩) preT rfl rfl hl.1 rfl (lv_room (Nat.le_of_ble_eq_true rfl)) dX4_answerForAlive_98 ⟨Nat.zero_le _, Nat.zero_le _⟩) (fun r15 h9 => ?_)
        obtain rfl : r15 = F_X4_holds (F_X4_ownersOf z v f 0 pl day (F_X4_aliveOn z v f day)) t := h9
        refine lv_if_eq (tgt := 106) hx hb dX4_answerForAlive_101 (by decide) (fun c16 => ?_) (fun c16 => ?_)
        · rw [if_pos c16] at hF
          refine lv_aload_n hx hb dX4_answerForAlive_106 rfl (lv_at hl 4 rfl) ?_
          refine lv_iload_n hx hb dX4_answerForAlive_107 rfl (lv_at hl 5 rfl) ?_
          refine lv_iload_n hx hb dX4_answerForAlive_108 rfl (lv_at hl 6 rfl) ?_
          refine vp_callSi (W.runV (As := [.int t, .int a]) (rest := []) ⟨hx, hb, hml, hown, hts⟩ (c_X4_isForbidden l dC dI ad cI cZ z v f t a hok (by first | assumption | omega | exact vp_in_nI (by omega) (by omega))) (cwV 2 hts gX4_answerForAlive_X4_isForbidden rfl rfl rfl (by decide +kernel) ⟨Nat.le_of_ble_eq_true rfl, Nat.le_of_ble_eq_true rfl⟩) (preX (ci := 4) (q0 := 0) hP hK hN rfl rfl rfl) rfl rfl hl.1 rfl (lv_room (Nat.le_of_ble_eq_true rfl)) dX4_answerForAlive_109 ⟨Nat.zero_le _, Nat.zero_le _⟩) (fun r17 h9 => ?_)
          obtain rfl : r17 = F_X4_isForbidden z v f t a := h9
          refine lv_if_eq (tgt := 117) hx hb dX4_answerForAlive_112 (by decide) (fun c18 => ?_) (fun c18 => ?_)
          · rw [if_pos c18] at hF
            refine lv_iload hx hb dX4_answerForAlive_117 (lv_at hl 0 rfl) ?_
            refine lv_iload hx hb dX4_answerForAlive_119 (lv_at hl 3 rfl) ?_
            refine lv_iand hx hb dX4_answerForAlive_121 ?_
            refine lv_if_eq (tgt := 127) hx hb dX4_answerForAlive_122 (by decide) (fun c19 => ?_) (fun c19 => ?_)
            · rw [if_pos c19] at hF
              refine lv_iload hx hb dX4_answerForAlive_127 (lv_at hl 1 rfl) ?_
              refine lv_iload hx hb dX4_answerForAlive_129 (lv_at hl 0 rfl) ?_
              refine lv_ior hx hb dX4_answerForAlive_131 ?_
              refine lv_if_eq (tgt := 140) hx hb dX4_answerForAlive_132 (by decide) (fun c20 => ?_) (fun c20 => ?_)
              · rw [if_pos c20] at hF
                refine lv_bipush (v := 7) hx hb dX4_answerForAlive_140 (by decide) ?_
                subst hQ9
                exact W.iret hx hb hr (fun t ht hW => ⟨_, rfl, hF, ht⟩) (fun q h => by cases h) dX4_answerForAlive_142
              · rw [if_neg c20] at hF
                refine lv_bipush (v := 6) hx hb dX4_answerForAlive_135 (by decide) ?_
                refine lv_goto (tgt := 142) hx hb dX4_answerForAlive_137 (by decide) ?_
                subst hQ9
                exact W.iret hx hb hr (fun t ht hW => ⟨_, rfl, hF, ht⟩) (fun q h => by cases h) dX4_answerForAlive_142
            · rw [if_neg c19] at hF
              refine lv_iconst (v := 5) hx hb dX4_answerForAlive_125 (by decide) ?_
              subst hQ9
              exact W.iret hx hb hr (fun t ht hW => ⟨_, rfl, hF, ht⟩) (fun q h => by cases h) dX4_answerForAlive_126
          · rw [if_neg c18] at hF
            refine lv_iconst (v := 4) hx hb dX4_answerForAlive_115 (by decide) ?_
            subst hQ9
            exact W.iret hx hb hr (fun t ht hW => ⟨_, rfl, hF, ht⟩) (fun q h => by cases h) dX4_answerForAlive_116
        · rw [if_neg c16] at hF
          refine lv_iconst (v := 0) hx hb dX4_answerForAlive_104 (by decide) ?_
          subst hQ9
          exact W.iret hx hb hr (fun t ht hW => ⟨_, rfl, hF, ht⟩) (fun q h => by cases h) dX4_answerForAlive_105
    · rw [if_neg c8] at hF
      refine lv_iconst (v := 0) hx hb dX4_answerForAlive_77 (by decide) ?_
      subst hQ9
      exact W.iret hx hb hr (fun t ht hW => ⟨_, rfl, hF, ht⟩) (fun q h => by cases h) dX4_answerForAlive_78
  · rw [if_neg c4] at hF
    refine lv_iconst (v := 0) hx hb dX4_answerForAlive_29 (by decide) ?_
    subst hQ9
    exact W.iret hx hb hr (fun t ht hW => ⟨_, rfl, hF, ht⟩) (fun q h => by cases h) dX4_answerForAlive_30
