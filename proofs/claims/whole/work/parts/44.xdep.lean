def F_X4_deputy (z : Nat → Nat) (v : Nat → Int32) (f : Nat → Nat → Int32) (t u : Int32) : Nat × Int32 × (Nat → Nat) × (Nat → Int32) × (Nat → Nat → Int32) :=
  if F_X4_areTwoTraders z v f t u = 0 then
    (1, 0, z, v, f)
  else
    if F_X4_isInDeputyPair z v f t = 0 then
      if F_X4_isInDeputyPair z v f u = 0 then
        (0, 1, z, v, uu (uu f 2 (upd (f 2) t.toNatClampNeg u)) 3 (upd (f 3) u.toNatClampNeg t))
      else
        (0, 0, z, v, f)
    else
      (0, 0, z, v, f)
theorem wX_set3 (ad : Nat → Nat) (cI cZ : ClassId) (z : Nat → Nat) (v : Nat → Int32) (f : Nat → Nat → Int32) (g : Nat → Int32) : (wX ad cI cZ z v f).set 3 (ad 3, .inl (cI, 12, .inl g)) = wX ad cI cZ z v (uu f 2 g) := rfl
theorem wX_set4 (ad : Nat → Nat) (cI cZ : ClassId) (z : Nat → Nat) (v : Nat → Int32) (f : Nat → Nat → Int32) (g : Nat → Int32) : (wX ad cI cZ z v f).set 4 (ad 4, .inl (cI, 12, .inl g)) = wX ad cI cZ z v (uu f 3 g) := rfl
set_option maxHeartbeats 4000000 in
set_option maxRecDepth 100000 in
theorem c_X4_deputy (l : Launch) (dC : Nat → ClassId) (dI : Nat → Nat → Nat) (ad : Nat → Nat) (cI cZ : ClassId) (z : Nat → Nat) (v : Nat → Int32) (f : Nat → Nat → Int32) (sz : Nat) (t u : Int32) (hok : okX z v f) (hlt : l.stackTraces = false) : vx_Met l yX4_deputy wsX4_deputy ({ frames := 6, cells := 1, slots := 6, locals := 82 }) (va_Pc [.ref (ad 0), .int t, .int u] (fun U => U.heap.size = sz ∧ va_D (fun _ => True) (wX ad cI cZ z v f) ∧ kX dC dI ad cI cZ z v f U ∧ tW (va_A (wX ad cI cZ z v f) sz) U)) (va_Qi (fun (r : Int32) (_ : Unit) => (F_X4_deputy z v f t u).1 = 0 ∧ r = (F_X4_deputy z v f t u).2.1) (fun _ U9 => va_P (dC, dI) vwCl (wX ad cI cZ ((F_X4_deputy z v f t u).2.2.1) ((F_X4_deputy z v f t u).2.2.2.1) ((F_X4_deputy z v f t u).2.2.2.2)) U9.heap) (va_A (wX ad cI cZ z v f) sz)) (vx_X (fun _ : Unit => True) (fun E _ U9 => E = exN (F_X4_deputy z v f t u).1 ∧ ¬ (F_X4_deputy z v f t u).1 = 0 ∧ va_P (dC, dI) vwCl (wX ad cI cZ z v f) U9.heap) (va_A (wX ad cI cZ z v f) sz)) 1 6 (va_A (wX ad cI cZ z v f) sz) := by
  refine vx_ofW (cc := cX4_deputy) (maxL := 3) (ret := (some .int)) (by decide) rfl ?_
  intro p e s m args below meth c s₁ B hml hexc hv
  obtain ⟨rfl, hsz, hD0, ⟨hP, hK, hN⟩, hT⟩ := hv
  have hx := B.exec
  have hb := B.bytes
  have hr := B.returns
  have hts := atoms_spec (ws := wsX4_deputy) B.pre
  have hown : s.vm.findClass RX4 = some m.cls := findClass_of_methodNamed B.named
  have hlocks := B.notSynchronized
  have hok9 := hok
  obtain ⟨hz0, hz1, hz2, hz3, hz4, hbz, hbs⟩ := hok9
  have hat87 : ∀ w ∈ vx_atS RX4 87 "java/lang/IllegalArgumentException" ["java/lang/RuntimeException", "java/lang/Exception"], w.before _ s = true := vx_hat (B := badL) (fun w hw => hts w ((fun w h => List.mem_cons_of_mem _ (List.mem_append_right _ h)) w hw)) at_bad87 (fun w hw => va_Nw.use (bad_tab (badL_all w hw)) (hT.2.2.2 w hw))
  have hck83 := hts (.classLink RX4 83 "java/lang/IllegalArgumentException") (List.mem_of_getElem? (i := 1) rfl)
  have hei83 := hts (.initialized "java/lang/IllegalArgumentException") (List.mem_of_getElem? (i := 2) rfl)
  have hfl23 := hts (.fieldLink RX4 23 "TraderRights" "deputies" "[I") (List.mem_of_getElem? (i := 3) rfl)
  have hfl26 := hts (.fieldLink RX4 26 "TraderRights" "principals" "[I") (List.mem_of_getElem? (i := 4) rfl)
  have hinX4 : ∀ w ∈ u_ws RX4 TX4 11, w ∈ wsX4_deputy := fun w h => List.mem_cons_of_mem _ (List.mem_append_left _ (List.mem_append_right _ h))
  subst hsz
  have hD := hD0.self (sz := s.heap.size)
  generalize hAe : va_A (wX ad cI cZ z v f) s.heap.size = A at hD hT ⊢
  have hA : ∀ q : Nat, s.heap.size ≤ q → A q := fun q h => by rw [← hAe]; exact Or.inr h
  have hS : va_S A s.heap s.heap [] := va_S.rf
  have hl := lv_entry ([.ref (ad 0), .int t, .int u]) (n := 3) (Nat.le_of_ble_eq_true rfl)
  rw [lg_entry_eq]
  generalize (lg_sl ([.ref (ad 0), .int t, .int u]) ++ List.replicate (3 - (lg_sl ([.ref (ad 0), .int t, .int u])).length) Slot.unset).toArray = ls at hl ⊢
  have hl : lv_has ls 3 [(0, .ref (ad 0)), (1, .int t), (2, .int u)] := hl
  generalize hF : F_X4_deputy z v f t u = R9
  generalize hQ9 : vx_MQ below _ _ _ s 1 6 A = Q9
  rw [F_X4_deputy] at hF
  refine lv_aload_n hx hb dX4_deputy_0 rfl (lv_at hl 0 rfl) ?_
  refine lv_iload_n hx hb dX4_deputy_1 rfl (lv_at hl 1 rfl) ?_
  refine lv_iload_n hx hb dX4_deputy_2 rfl (lv_at hl 2 rfl) ?_
  refine vp_callSi (W.runV (As := [.int t, .int u]) (rest := []) ⟨hx, hb, hml, hown, hts⟩ (c_X4_areTwoTraders l dC dI ad cI cZ z v f t u hok) (cwV 2 hts gX4_deputy_X4_areTwoTraders rfl rfl rfl (by decide +kernel) ⟨Nat.le_of_ble_eq_true rfl, Nat.le_of_ble_eq_true rfl⟩) (preX (ci := 4) (q0 := 0) hP hK hN rfl rfl rfl) rfl rfl hl.1 rfl (lv_room (Nat.le_of_ble_eq_true rfl)) dX4_deputy_3 ⟨Nat.zero_le _, Nat.zero_le _⟩) (fun r1 h9 => ?_)
  have hr1 : r1 = F_X4_areTwoTraders z v f t u := h9
  try rw [← hr1] at hF
  refine lv_if_ne (tgt := 19) hx hb dX4_deputy_6 (by decide) (fun c2 => ?_) (fun c2 => ?_)
  · rw [if_neg c2] at hF
    have c2f : ¬ F_X4_areTwoTraders z v f t u = 0 := by rw [← hr1]; exact c2
    refine lv_aload_n hx hb dX4_deputy_19 rfl (lv_at hl 0 rfl) ?_
    refine lv_iload_n hx hb dX4_deputy_20 rfl (lv_at hl 1 rfl) ?_
    refine vp_callSi (W.runV (As := [.int t]) (rest := []) ⟨hx, hb, hml, hown, hts⟩ (c_X4_isInDeputyPair l dC dI ad cI cZ z v f t hok (in_twoX hok c2f)) (cwV 1 hts gX4_deputy_X4_isInDeputyPair rfl rfl rfl (by decide +kernel) ⟨Nat.le_of_ble_eq_true rfl, Nat.le_of_ble_eq_true rfl⟩) (preX (ci := 4) (q0 := 0) hP hK hN rfl rfl rfl) rfl rfl hl.1 rfl (lv_room (Nat.le_of_ble_eq_true rfl)) dX4_deputy_21 ⟨Nat.zero_le _, Nat.zero_le _⟩) (fun r3 h9 => ?_)
    have hr3 : r3 = F_X4_isInDeputyPair z v f t := h9
    try rw [← hr3] at hF
    refine lv_if_ne (tgt := 35) hx hb dX4_deputy_24 (by decide) (fun c4 => ?_) (fun c4 => ?_)
    · rw [if_neg c4] at hF
      have c4f : ¬ F_X4_isInDeputyPair z v f t = 0 := by rw [← hr3]; exact c4
      refine lv_iconst (v := 0) hx hb dX4_deputy_35 (by decide) ?_
      subst hF
      subst hQ9
      refine vx_ret ?_
      refine W.widen (k := 1) (n := 6) (by decide) (by decide) ?_
      exact W.iret (v := 0) hx hb hr (fun t9 ht hW => ⟨⟨0, (), rfl, ⟨rfl, rfl⟩, by show va_P (dC, dI) vwCl _ t9.heap; rw [ht]; exact hP⟩, hS.F ht⟩) hS.2.2 dX4_deputy_36
    · rw [if_pos c4] at hF
      have c4f : F_X4_isInDeputyPair z v f t = 0 := by rw [← hr3]; exact c4
      refine lv_aload_n hx hb dX4_deputy_27 rfl (lv_at hl 0 rfl) ?_
      refine lv_iload_n hx hb dX4_deputy_28 rfl (lv_at hl 2 rfl) ?_
      refine vp_callSi (W.runV (As := [.int u]) (rest := []) ⟨hx, hb, hml, hown, hts⟩ (c_X4_isInDeputyPair l dC dI ad cI cZ z v f u hok (in_towX hok c2f)) (cwV 1 hts gX4_deputy_X4_isInDeputyPair rfl rfl rfl (by decide +kernel) ⟨Nat.le_of_ble_eq_true rfl, Nat.le_of_ble_eq_true rfl⟩) (preX (ci := 4) (q0 := 0) hP hK hN rfl rfl rfl) rfl rfl hl.1 rfl (lv_room (Nat.le_of_ble_eq_true rfl)) dX4_deputy_29 ⟨Nat.zero_le _, Nat.zero_le _⟩) (fun r5 h9 => ?_)
      have hr5 : r5 = F_X4_isInDeputyPair z v f u := h9
      try rw [← hr5] at hF
      refine lv_if_eq (tgt := 37) hx hb dX4_deputy_32 (by decide) (fun c6 => ?_) (fun c6 => ?_)
      · rw [if_pos c6] at hF
        have c6f : F_X4_isInDeputyPair z v f u = 0 := by rw [← hr5]; exact c6
        refine lv_aload_n hx hb dX4_deputy_37 rfl (lv_at hl 0 rfl) ?_
        refine va_get (D := (dC, dI)) (ci := 4) (v := .ref (ad 3)) (C := RX4) (T := TX4) (N := 11) hx hb hts hinX4 hown hK hP 0 rfl rfl 4 (by decide) hfl23 (fun _ h9 => h9) rfl dX4_deputy_38 ?_
        refine lv_iload_n hx hb dX4_deputy_41 rfl (lv_at hl 1 rfl) ?_
        refine lv_iload_n hx hb dX4_deputy_42 rfl (lv_at hl 2 rfl) ?_
        refine va_iast hx hb hK hP hD hS 3 0 rfl rfl (in_twoX hok c2f) dX4_deputy_43 (fun H locs hP hD hS => ?_)
        generalize hj7 : t.toNatClampNeg = j7 at hF hP hD
        rw [wX_set3] at hP hD
        refine lv_aload_n hx hb dX4_deputy_44 rfl (lv_at hl 0 rfl) ?_
        refine va_get (D := (dC, dI)) (ci := 4) (v := .ref (ad 4)) (C := RX4) (T := TX4) (N := 11) hx hb hts hinX4 hown hK hP 0 rfl rfl 5 (by decide) hfl26 (fun _ h9 => h9) rfl dX4_deputy_45 ?_
        refine lv_iload_n hx hb dX4_deputy_48 rfl (lv_at hl 2 rfl) ?_
        refine lv_iload_n hx hb dX4_deputy_49 rfl (lv_at hl 1 rfl) ?_
        refine va_iast hx hb hK hP hD hS 4 0 rfl rfl (in_towX hok c2f) dX4_deputy_50 (fun H locs hP hD hS => ?_)
        generalize hj8 : u.toNatClampNeg = j8 at hF hP hD
        rw [wX_set4] at hP hD
        rw [show (uu f 2 (upd (f 2) j7 u)) 3 = f 3 from rfl] at hP hD
        refine lv_iconst (v := 1) hx hb dX4_deputy_51 (by decide) ?_
        subst hF
        subst hQ9
        refine vx_ret ?_
        refine W.widen (k := 1) (n := 6) (by decide) (by decide) ?_
        exact W.iret (v := 1) hx hb hr (fun t9 ht hW => ⟨⟨1, (), rfl, ⟨rfl, rfl⟩, by show va_P (dC, dI) vwCl _ t9.heap; rw [ht]; exact hP⟩, hS.F ht⟩) hS.2.2 dX4_deputy_52
      · rw [if_neg c6] at hF
        have c6f : ¬ F_X4_isInDeputyPair z v f u = 0 := by rw [← hr5]; exact c6
        refine lv_iconst (v := 0) hx hb dX4_deputy_35 (by decide) ?_
        subst hF
        subst hQ9
        refine vx_ret ?_
        refine W.widen (k := 1) (n := 6) (by decide) (by decide) ?_
        exact W.iret (v := 0) hx hb hr (fun t9 ht hW => ⟨⟨0, (), rfl, ⟨rfl, rfl⟩, by show va_P (dC, dI) vwCl _ t9.heap; rw [ht]; exact hP⟩, hS.F ht⟩) hS.2.2 dX4_deputy_36
  · rw [if_pos c2] at hF
    have c2f : F_X4_areTwoTraders z v f t u = 0 := by rw [← hr1]; exact c2
    subst hF
    subst hQ9
    obtain ⟨sa9, hstr9⟩ := hT.2.2.1 (113, "no such two traders") (by decide +kernel)
    exact vx_throwS (cls := "java/lang/IllegalArgumentException") (names := ["java/lang/RuntimeException", "java/lang/Exception"]) hx hb hlt hown (by decide +kernel) (by decide +kernel) hck83 hei83 hstr9 hat87 ot87 hT.1 hT.2.1 hS (by rw [hml]; exact hl.1) dX4_deputy_9 dX4_deputy_12 dX4_deputy_13 dX4_deputy_15 dX4_deputy_18 (fun x h => (hexc x h).elim) (by decide) (by decide) (by decide) (by decide) hlocks (fun t9 hal hsz hkp => ⟨(), trivial, ⟨rfl, by show ¬ (1 : Nat) = 0; decide, hP.kept (fun k q hq => hkp _ (hP k q hq).lt)⟩, ⟨Nat.le_trans hS.1 hsz, fun q h1 h2 => (hkp q (Nat.lt_of_lt_of_le h1 hS.1)).trans (hS.2.1 q h1 h2)⟩⟩) hS.2.2 (by decide) (by decide)
