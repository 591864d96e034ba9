def F_X4_ownActs (z : Nat → Nat) (v : Nat → Int32) (f : Nat → Nat → Int32) (t day : Int32) : Int32 :=
  (F_X2_actsOf z v f ((F_X4_bit t) ||| (F_X4_groupsAmong z v f t (F_X4_aliveOn z v f day))) day) &&& ((f 1 t.toNatClampNeg) ^^^ (-1))
set_option maxHeartbeats 4000000 in
set_option maxRecDepth 100000 in
theorem c_X4_ownActs (l : Launch) (dC : Nat → ClassId) (dI : Nat → Nat → Nat) (ad : Nat → Nat) (cI cZ : ClassId) (z : Nat → Nat) (v : Nat → Int32) (f : Nat → Nat → Int32) (t day : Int32) (hok : okX z v f) (ht : vp_in t 12) : Met l yX4_ownActs wsX4_ownActs ({ frames := 3, cells := 0, slots := 0, locals := 68 }) (va_Pc [.ref (ad 0), .int t, .int day] (kX dC dI ad cI cZ z v f)) (vp_Si (fun r => r = F_X4_ownActs z v f t day)) 0 0 (fun _ => False) := by
  refine Met.ofW (cc := cX4_ownActs) (maxL := 4) (ret := (some .int)) (by decide) rfl ?_
  intro p e s m args below meth c s₁ B hml hv
  obtain ⟨rfl, hP, hK, hN⟩ := hv
  have hx := B.exec
  have hb := B.bytes
  have hr := B.returns
  have hts := atoms_spec (ws := wsX4_ownActs) B.pre
  have hown : s.vm.findClass RX4 = some m.cls := findClass_of_methodNamed B.named
  have hlocks := B.notSynchronized
  have hok9 := hok
  obtain ⟨hz0, hz1, hz2, hz3, hz4, hbz, hbs⟩ := hok9
  have hfl20 := hts (.fieldLink RX4 20 "TraderRights" "forbiddenActs" "[I") (List.mem_of_getElem? (i := 2) rfl)
  have hfl41 := hts (.fieldLink RX4 41 "TraderRights" "rights" "LTraderRights$Rights;") (List.mem_of_getElem? (i := 1) rfl)
  have himX2_actsOf := hts (.instanceMethod yX2_actsOf) (List.mem_of_getElem? (i := 38) rfl)
  have hinX4 : ∀ w ∈ u_ws RX4 TX4 11, w ∈ wsX4_ownActs := fun w h => List.mem_cons_of_mem _ (List.mem_append_left _ (List.mem_append_left _ (List.mem_append_right _ h)))
  have hiniX2 := hts (.initialized RX2) (List.mem_of_getElem? (i := 39) rfl)
  have hnw208 := hN (.methodLinkNest RX4 208 yX2_actsOf "TraderRights") (by decide +kernel)
  have hseX2_actsOf := hts (.selects RX2 yX2_actsOf yX2_actsOf) (List.mem_of_getElem? (i := 40) rfl)
  have hl := lv_entry ([.ref (ad 0), .int t, .int day]) (n := 4) (Nat.le_of_ble_eq_true rfl)
  rw [lg_entry_eq]
  generalize (lg_sl ([.ref (ad 0), .int t, .int day]) ++ List.replicate (4 - (lg_sl ([.ref (ad 0), .int t, .int day])).length) Slot.unset).toArray = ls at hl ⊢
  have hl : lv_has ls 4 [(0, .ref (ad 0)), (1, .int t), (2, .int day)] := hl
  generalize hF : F_X4_ownActs z v f t day = R9
  generalize hQ9 : MQ below (vp_Si (fun r => r = R9)) _ s 0 0 (fun _ => False) = Q9
  rw [F_X4_ownActs] at hF
  refine lv_iload_n hx hb dX4_ownActs_0 rfl (lv_at hl 1 rfl) ?_
  refine vp_callSi (W.runS (As := [.int t]) (rest := []) ⟨hx, hb, hml, hown, hts⟩ (c_X4_bit l t) (cwS 1 hts gX4_ownActs_X4_bit rfl rfl rfl (by decide +kernel) ⟨Nat.le_of_ble_eq_true rfl, Nat.le_of_ble_eq_true rfl⟩) preT rfl rfl hl.1 rfl (lv_room (Nat.le_of_ble_eq_true rfl)) dX4_ownActs_1 ⟨Nat.zero_le _, Nat.zero_le _⟩) (fun r1 h9 => ?_)
  have hr1 : r1 = F_X4_bit t := h9
  try rw [← hr1] at hF
  refine lv_aload_n hx hb dX4_ownActs_4 rfl (lv_at hl 0 rfl) ?_
  refine lv_iload_n hx hb dX4_ownActs_5 rfl (lv_at hl 1 rfl) ?_
  refine lv_aload_n hx hb dX4_ownActs_6 rfl (lv_at hl 0 rfl) ?_
  refine lv_iload_n hx hb dX4_ownActs_7 rfl (lv_at hl 2 rfl) ?_
  refine vp_callSi (W.runV (As := [.int day]) (rest := [.int t, .ref (ad 0), .int r1]) ⟨hx, hb, hml, hown, hts⟩ (c_X4_aliveOn l dC dI ad cI cZ z v f day hok) (cwV 1 hts gX4_ownActs_X4_aliveOn rfl rfl rfl (by decide +kernel) ⟨Nat.le_of_ble_eq_true rfl, Nat.le_of_ble_eq_true rfl⟩) (preX (ci := 4) (q0 := 0) hP hK hN rfl rfl rfl) rfl rfl hl.1 rfl (lv_room (Nat.le_of_ble_eq_true rfl)) dX4_ownActs_8 ⟨Nat.zero_le _, Nat.zero_le _⟩) (fun r2 h9 => ?_)
  have hr2 : r2 = F_X4_aliveOn z v f day := h9
  try rw [← hr2] at hF
  refine vp_callSi (W.runV (As := [.int t, .int r2]) (rest := [.int r1]) ⟨hx, hb, hml, hown, hts⟩ (c_X4_groupsAmong l dC dI ad cI cZ z v f t r2 hok ht) (cwV 2 hts gX4_ownActs_X4_groupsAmong rfl rfl rfl (by decide +kernel) ⟨Nat.le_of_ble_eq_true rfl, Nat.le_of_ble_eq_true rfl⟩) (preX (ci := 4) (q0 := 0) hP hK hN rfl rfl rfl) rfl rfl hl.1 rfl (lv_room (Nat.le_of_ble_eq_true rfl)) dX4_ownActs_11 ⟨Nat.zero_le _, Nat.zero_le _⟩) (fun r3 h9 => ?_)
  have hr3 : r3 = F_X4_groupsAmong z v f t r2 := h9
  try rw [← hr3] at hF
  refine lv_ior hx hb dX4_ownActs_14 ?_
  refine lv_istore_n (lv' := [(3, .int (r1 ||| r3)), (0, .ref (ad 0)), (1, .int t), (2, .int day)]) hx hb dX4_ownActs_15 rfl hl (by decide) rfl (fun ls hl => ?_)
  refine lv_aload_n hx hb dX4_ownActs_16 rfl (lv_at hl 1 rfl) ?_
  refine va_get (D := (dC, dI)) (ci := 4) (v := .ref (ad 6)) (C := RX4) (T := TX4) (N := 11) hx hb hts hinX4 hown hK hP 0 rfl rfl 7 (by decide) hfl41 (fun _ h9 => h9) rfl dX4_ownActs_17 ?_
  refine lv_iload_n hx hb dX4_ownActs_20 rfl (lv_at hl 0 rfl) ?_
  refine lv_iload_n hx hb dX4_ownActs_21 rfl (lv_at hl 3 rfl) ?_
  refine vp_callSi (va_Run.run (va_runVN (As := [.int (r1 ||| r3), .int day]) (rest := []) ⟨hx, hb, hml, hown, hts⟩ (c_X2_actsOf l dC dI ad cI cZ z v f (r1 ||| r3) day hok) ⟨(va_cnB 2 hts gX4_ownActs_X2_actsOf_n208 rfl rfl rfl hnw208 hiniX2 (by decide +kernel) ⟨Nat.le_of_ble_eq_true rfl, Nat.le_of_ble_eq_true rfl⟩), himX2_actsOf, hseX2_actsOf⟩ (preX (ci := 2) (q0 := 6) hP hK hN rfl rfl rfl) rfl rfl hl.1 rfl (lv_room (Nat.le_of_ble_eq_true rfl)) dX4_ownActs_22 ⟨Nat.zero_le _, Nat.zero_le _⟩)) (fun r4 h9 => ?_)
  have hr4 : r4 = F_X2_actsOf z v f (r1 ||| r3) day := h9
  try rw [← hr4] at hF
  refine lv_aload_n hx hb dX4_ownActs_25 rfl (lv_at hl 1 rfl) ?_
  refine va_get (D := (dC, dI)) (ci := 4) (v := .ref (ad 2)) (C := RX4) (T := TX4) (N := 11) hx hb hts hinX4 hown hK hP 0 rfl rfl 3 (by decide) hfl20 (fun _ h9 => h9) rfl dX4_ownActs_26 ?_
  refine lv_iload_n hx hb dX4_ownActs_29 rfl (lv_at hl 2 rfl) ?_
  refine va_iald hx hb hK hP 2 0 rfl rfl ht dX4_ownActs_30 ?_
  refine lv_iconst (v := (-1)) hx hb dX4_ownActs_31 (by decide) ?_
  refine lv_ixor hx hb dX4_ownActs_32 ?_
  refine lv_iand hx hb dX4_ownActs_33 ?_
  subst hQ9
  exact W.iret hx hb hr (fun t ht hW => ⟨_, rfl, hF, ht⟩) (fun q h => by cases h) dX4_ownActs_34
