def F_X5_forbid (z : Nat → Nat) (v : Nat → Int32) (f : Nat → Nat → Int32) (t a b : Int32) : Int32 × Int32 × (Nat → Nat) × (Nat → Int32) × (Nat → Nat → Int32) :=
  if F_X5_isTrader z v f t = 0 then
    (0, 0, z, v, f)
  else
    if F_X5_isEight a = 0 then
      (0, 0, z, v, f)
    else
      if F_X5_isForbidden z v f t a = b then
        (0, 0, z, v, f)
      else
        if b = 0 then
          (1, 0, z, v, uu f 1 (upd (f 1) t.toNatClampNeg ((f 1 t.toNatClampNeg) + (-(1 <<< (a &&& 31))))))
        else
          (1, 0, z, v, uu f 1 (upd (f 1) t.toNatClampNeg ((f 1 t.toNatClampNeg) + (1 <<< (a &&& 31)))))
set_option maxHeartbeats 4000000 in
set_option maxRecDepth 100000 in
theorem c_X5_forbid (l : Launch) (dC : Nat → ClassId) (dI : Nat → Nat → Nat) (am : Nat → Nat) (cI cZ : ClassId) (th : Int32) (z : Nat → Nat) (v : Nat → Int32) (f : Nat → Nat → Int32) (sz : Nat) (t a b : Int32) (hok : okM z v f) : Met l yX5_forbid wsX5_forbid ({ frames := 2, cells := 0, slots := 0, locals := 42 }) (va_Pc [.ref (am 0), .int t, .int a, .int b] (fun U => U.heap.size = sz ∧ va_D (fun _ => True) (wM am cI cZ th z v f) ∧ kM dC dI am cI cZ th z v f U)) (va_Qi (fun (r : Int32) (_ : Unit) => r = (F_X5_forbid z v f t a b).1) (fun _ U9 => va_P (dC, dI) vwCl (wM am cI cZ ((F_X5_forbid z v f t a b).2.1) ((F_X5_forbid z v f t a b).2.2.1) ((F_X5_forbid z v f t a b).2.2.2.1) ((F_X5_forbid z v f t a b).2.2.2.2)) U9.heap) (va_A (wM am cI cZ th z v f) sz)) 0 0 (va_A (wM am cI cZ th z v f) sz) := by
  refine Met.ofW (cc := cX5_forbid) (maxL := 4) (ret := (some .boolean)) (by decide) rfl ?_
  intro p e s m args below meth c s₁ B hml hv
  obtain ⟨rfl, hsz, hD0, hP, hK, hN⟩ := hv
  have hx := B.exec
  have hb := B.bytes
  have hr := B.returns
  have hts := atoms_spec (ws := wsX5_forbid) B.pre
  have hown : s.vm.findClass RX5 = some m.cls := findClass_of_methodNamed B.named
  have hlocks := B.notSynchronized
  have hok9 := hok
  obtain ⟨hz0, hz1, hz2, hz3, hz4, hbz, hbs, hdp, hgv⟩ := hok9
  have hfl13 := hts (.fieldLink RX5 13 "TraderRightsModel" "forbidden" "[I") (List.mem_of_getElem? (i := 2) rfl)
  have hfl66 := hts (.fieldLink RX5 66 "TraderRightsModel" "thrown" "I") (List.mem_of_getElem? (i := 1) rfl)
  have hinX5 : ∀ w ∈ u_ws RX5 TX5 25, w ∈ wsX5_forbid := fun w h => List.mem_cons_of_mem _ (List.mem_append_right _ h)
  subst hsz
  have hD := hD0.self (sz := s.heap.size)
  generalize hAe : va_A (wM am cI cZ th z v f) s.heap.size = A at hD ⊢
  have hA : ∀ q : Nat, s.heap.size ≤ q → A q := fun q h => by rw [← hAe]; exact Or.inr h
  have hS : va_S A s.heap s.heap [] := va_S.rf
  have hl := lv_entry ([.ref (am 0), .int t, .int a, .int b]) (n := 4) (Nat.le_of_ble_eq_true rfl)
  rw [lg_entry_eq]
  generalize (lg_sl ([.ref (am 0), .int t, .int a, .int b]) ++ List.replicate (4 - (lg_sl ([.ref (am 0), .int t, .int a, .int b])).length) Slot.unset).toArray = ls at hl ⊢
  have hl : lv_has ls 4 [(0, .ref (am 0)), (1, .int t), (2, .int a), (3, .int b)] := hl
  generalize hF : F_X5_forbid z v f t a b = R9
  generalize hQ9 : MQ below _ _ s 0 0 A = Q9
  rw [F_X5_forbid] at hF
  refine lv_aload_n hx hb dX5_forbid_0 rfl (lv_at hl 0 rfl) ?_
  refine lv_iconst (v := 0) hx hb dX5_forbid_1 (by decide) ?_
  refine va_put (D := (dC, dI)) (ci := 5) (v := .int 0) (ty := .int) (C := RX5) (T := TX5) (N := 25) hx hb hts hinX5 tyX5 tyX5_ok nmX5 hown hK hP hD hS 0 rfl rfl 0 (by decide) hfl66 (fun _ h9 => h9) rfl (by decide +kernel) rfl rfl (Nat.le_of_ble_eq_true rfl) dX5_forbid_2 (fun H locs hP hD hS => ?_)
  have hP : va_P (dC, dI) vwCl (wM am cI cZ 0 z v f) H := hP
  have hD : va_D A (wM am cI cZ 0 z v f) := hD
  refine lv_aload_n hx hb dX5_forbid_5 rfl (lv_at hl 0 rfl) ?_
  refine lv_iload_n hx hb dX5_forbid_6 rfl (lv_at hl 1 rfl) ?_
  refine vp_callSi (W.runV (As := [.int t]) (rest := []) ⟨hx, hb, hml, hown, hts⟩ (c_X5_isTrader l dC dI am cI cZ 0 z v f t hok) (cwV 1 hts gX5_forbid_X5_isTrader rfl rfl rfl (by decide +kernel) ⟨Nat.le_of_ble_eq_true rfl, Nat.le_of_ble_eq_true rfl⟩) (preM (ci := 5) (q0 := 0) hP hK hN rfl rfl rfl) rfl rfl hl.1 rfl (lv_room (Nat.le_of_ble_eq_true rfl)) dX5_forbid_7 ⟨Nat.zero_le _, Nat.zero_le _⟩) (fun r1 h9 => ?_)
  have hr1 : r1 = F_X5_isTrader z v f t := h9
  try rw [← hr1] at hF
  refine lv_if_eq (tgt := 30) hx hb dX5_forbid_10 (by decide) (fun c2 => ?_) (fun c2 => ?_)
  · rw [if_pos c2] at hF
    have c2f : F_X5_isTrader z v f t = 0 := by rw [← hr1]; exact c2
    refine lv_iconst (v := 0) hx hb dX5_forbid_30 (by decide) ?_
    subst hF
    subst hQ9
    exact W.zret (ty := .boolean) (v := 0) hx hb hr rfl (fun t9 ht hW => ⟨⟨0, (), rfl, rfl, by show va_P (dC, dI) vwCl _ t9.heap; rw [ht]; exact hP⟩, hS.F ht⟩) hS.2.2 dX5_forbid_31
  · rw [if_neg c2] at hF
    have c2f : ¬ F_X5_isTrader z v f t = 0 := by rw [← hr1]; exact c2
    refine lv_iload_n hx hb dX5_forbid_13 rfl (lv_at hl 2 rfl) ?_
    refine vp_callSi (W.runS (As := [.int a]) (rest := []) ⟨hx, hb, hml, hown, hts⟩ (c_X5_isEight l a) (cwS 1 hts gX5_forbid_X5_isEight rfl rfl rfl (by decide +kernel) ⟨Nat.le_of_ble_eq_true rfl, Nat.le_of_ble_eq_true rfl⟩) preT rfl rfl hl.1 rfl (lv_room (Nat.le_of_ble_eq_true rfl)) dX5_forbid_14 ⟨Nat.zero_le _, Nat.zero_le _⟩) (fun r3 h9 => ?_)
    have hr3 : r3 = F_X5_isEight a := h9
    try rw [← hr3] at hF
    refine lv_if_eq (tgt := 30) hx hb dX5_forbid_17 (by decide) (fun c4 => ?_) (fun c4 => ?_)
    · rw [if_pos c4] at hF
      have c4f : F_X5_isEight a = 0 := by rw [← hr3]; exact c4
      refine lv_iconst (v := 0) hx hb dX5_forbid_30 (by decide) ?_
      subst hF
      subst hQ9
      exact W.zret (ty := .boolean) (v := 0) hx hb hr rfl (fun t9 ht hW => ⟨⟨0, (), rfl, rfl, by show va_P (dC, dI) vwCl _ t9.heap; rw [ht]; exact hP⟩, hS.F ht⟩) hS.2.2 dX5_forbid_31
    · rw [if_neg c4] at hF
      have c4f : ¬ F_X5_isEight a = 0 := by rw [← hr3]; exact c4
      refine lv_aload_n hx hb dX5_forbid_20 rfl (lv_at hl 0 rfl) ?_
      refine lv_iload_n hx hb dX5_forbid_21 rfl (lv_at hl 1 rfl) ?_
      refine lv_iload_n hx hb dX5_forbid_22 rfl (lv_at hl 2 rfl) ?_
      refine vp_callSi (W.runV (As := [.int t, .int a]) (rest := []) ⟨hx, hb, hml, hown, hts⟩ (c_X5_isForbidden l dC dI am cI cZ 0 z v f t a hok (in_isTM hok c2f)) (cwV 2 hts gX5_forbid_X5_isForbidden rfl rfl rfl (by decide +kernel) ⟨Nat.le_of_ble_eq_true rfl, Nat.le_of_ble_eq_true rfl⟩) (preM (ci := 5) (q0 := 0) hP hK hN rfl rfl rfl) rfl rfl hl.1 rfl (lv_room (Nat.le_of_ble_eq_true rfl)) dX5_forbid_23 ⟨Nat.zero_le _, Nat.zero_le _⟩) (fun r5 h9 => ?_)
      have hr5 : r5 = F_X5_isForbidden z v f t a := h9
      try rw [← hr5] at hF
      refine lv_iload_n hx hb dX5_forbid_26 rfl (lv_at hl 3 rfl) ?_
      refine lv_icmp_ne (tgt := 32) hx hb dX5_forbid_27 (by decide) (fun c6 => ?_) (fun c6 => ?_)
      · rw [if_neg c6] at hF
        refine lv_aload_n hx hb dX5_forbid_32 rfl (lv_at hl 0 rfl) ?_
        refine va_get (D := (dC, dI)) (ci := 5) (v := .ref (am 2)) (C := RX5) (T := TX5) (N := 25) hx hb hts hinX5 hown hK hP 0 rfl rfl 7 (by decide) hfl13 (fun _ h9 => h9) rfl dX5_forbid_33 ?_
        refine lv_iload_n hx hb dX5_forbid_36 rfl (lv_at hl 1 rfl) ?_
        refine lv_dup2_11 hx hb dX5_forbid_37 rfl rfl ?_
        refine va_iald hx hb hK hP 2 0 rfl rfl (in_isTM hok c2f) dX5_forbid_38 ?_
        refine lv_iload_n hx hb dX5_forbid_39 rfl (lv_at hl 3 rfl) ?_
        refine lv_if_eq (tgt := 49) hx hb dX5_forbid_40 (by decide) (fun c7 => ?_) (fun c7 => ?_)
        · rw [if_pos c7] at hF
          refine lv_iconst (v := 1) hx hb dX5_forbid_49 (by decide) ?_
          refine lv_iload_n hx hb dX5_forbid_50 rfl (lv_at hl 2 rfl) ?_
          refine lv_ishl hx hb dX5_forbid_51 ?_
          refine lv_ineg hx hb dX5_forbid_52 ?_
          refine lv_iadd hx hb dX5_forbid_53 ?_
          refine va_iast hx hb hK hP hD hS 2 0 rfl rfl (in_isTM hok c2f) dX5_forbid_54 (fun H locs hP hD hS => ?_)
          have hP : va_P (dC, dI) vwCl (wM am cI cZ 0 z v (uu f 1 (upd (f 1) t.toNatClampNeg ((f 1 t.toNatClampNeg) + (-(1 <<< (a &&& 31))))))) H := hP
          have hD : va_D A (wM am cI cZ 0 z v (uu f 1 (upd (f 1) t.toNatClampNeg ((f 1 t.toNatClampNeg) + (-(1 <<< (a &&& 31))))))) := hD
          refine lv_iconst (v := 1) hx hb dX5_forbid_55 (by decide) ?_
          subst hF
          subst hQ9
          exact W.zret (ty := .boolean) (v := 1) hx hb hr rfl (fun t9 ht hW => ⟨⟨1, (), rfl, rfl, by show va_P (dC, dI) vwCl _ t9.heap; rw [ht]; exact hP⟩, hS.F ht⟩) hS.2.2 dX5_forbid_56
        · rw [if_neg c7] at hF
          refine lv_iconst (v := 1) hx hb dX5_forbid_43 (by decide) ?_
          refine lv_iload_n hx hb dX5_forbid_44 rfl (lv_at hl 2 rfl) ?_
          refine lv_ishl hx hb dX5_forbid_45 ?_
          refine lv_goto (tgt := 53) hx hb dX5_forbid_46 (by decide) ?_
          refine lv_iadd hx hb dX5_forbid_53 ?_
          refine va_iast hx hb hK hP hD hS 2 0 rfl rfl (in_isTM hok c2f) dX5_forbid_54 (fun H locs hP hD hS => ?_)
          have hP : va_P (dC, dI) vwCl (wM am cI cZ 0 z v (uu f 1 (upd (f 1) t.toNatClampNeg ((f 1 t.toNatClampNeg) + (1 <<< (a &&& 31)))))) H := hP
          have hD : va_D A (wM am cI cZ 0 z v (uu f 1 (upd (f 1) t.toNatClampNeg ((f 1 t.toNatClampNeg) + (1 <<< (a &&& 31)))))) := hD
          refine lv_iconst (v := 1) hx hb dX5_forbid_55 (by decide) ?_
          subst hF
          subst hQ9
          exact W.zret (ty := .boolean) (v := 1) hx hb hr rfl (fun t9 ht hW => ⟨⟨1, (), rfl, rfl, by show va_P (dC, dI) vwCl _ t9.heap; rw [ht]; exact hP⟩, hS.F ht⟩) hS.2.2 dX5_forbid_56
      · rw [if_pos c6] at hF
        refine lv_iconst (v := 0) hx hb dX5_forbid_30 (by decide) ?_
        subst hF
        subst hQ9
        exact W.zret (ty := .boolean) (v := 0) hx hb hr rfl (fun t9 ht hW => ⟨⟨0, (), rfl, rfl, by show va_P (dC, dI) vwCl _ t9.heap; rw [ht]; exact hP⟩, hS.F ht⟩) hS.2.2 dX5_forbid_31
def F_X5_end (z : Nat → Nat) (v : Nat → Int32) (f : Nat → Nat → Int32) (t day : Int32) : Int32 × Int32 × (Nat → Nat) × (Nat → Int32) × (Nat → Nat → Int32) :=
  if F_X5_isTrader z v f t = 0 then
    (0, 0, z, v, f)
  else
    if F_X5_isDay day = 0 then
      (0, 0, z, v, f)
    else
      if f 3 t.toNatClampNeg < 0 then
        (1, 0, z, v, uu f 3 (upd (f 3) t.toNatClampNeg day))
      else
        (0, 0, z, v, f)
set_option maxHeartbeats 4000000 in
set_option maxRecDepth 100000 in
theorem c_X5_end (l : Launch) (dC : Nat → ClassId) (dI : Nat → Nat → Nat) (am : Nat → Nat) (cI cZ : ClassId) (th : Int32) (z : Nat → Nat) (v : Nat → Int32) (f : Nat → Nat → Int32) (sz : Nat) (t day : Int32) (hok : okM z v f) : Met l yX5_end wsX5_end ({ frames := 2, cells := 0, slots := 0, locals := 42 }) (va_Pc [.ref (am 0), .int t, .int day] (fun U => U.heap.size = sz ∧ va_D (fun _ => True) (wM am cI cZ th z v f) ∧ kM dC dI am cI cZ th z v f U)) (va_Qi (fun (r : Int32) (_ : Unit) => r = (F_X5_end z v f t day).1) (fun _ U9 => va_P (dC, dI) vwCl (wM am cI cZ ((F_X5_end z v f t day).2.1) ((F_X5_end z v f t day).2.2.1) ((F_X5_end z v f t day).2.2.2.1) ((F_X5_end z v f t day).2.2.2.2)) U9.heap) (va_A (wM am cI cZ th z v f) sz)) 0 0 (va_A (wM am cI cZ th z v f) sz) := by
  refine Met.ofW (cc := cX5_end) (maxL := 3) (ret := (some .boolean)) (by decide) rfl ?_
  intro p e s m args below meth c s₁ B hml hv
  obtain ⟨rfl, hsz, hD0, hP, hK, hN⟩ := hv
  have hx := B.exec
  have hb := B.bytes
  have hr := B.returns
  have hts := atoms_spec (ws := wsX5_end) B.pre
  have hown : s.vm.findClass RX5 = some m.cls := findClass_of_methodNamed B.named
  have hlocks := B.notSynchronized
  have hok9 := hok
  obtain ⟨hz0, hz1, hz2, hz3, hz4, hbz, hbs, hdp, hgv⟩ := hok9
  have hfl19 := hts (.fieldLink RX5 19 "TraderRightsModel" "endsAt" "[I") (List.mem_of_getElem? (i := 2) rfl)
  have hfl66 := hts (.fieldLink RX5 66 "TraderRightsModel" "thrown" "I") (List.mem_of_getElem? (i := 1) rfl)
  have hinX5 : ∀ w ∈ u_ws RX5 TX5 25, w ∈ wsX5_end := fun w h => List.mem_cons_of_mem _ (List.mem_append_right _ h)
  subst hsz
  have hD := hD0.self (sz := s.heap.size)
  generalize hAe : va_A (wM am cI cZ th z v f) s.heap.size = A at hD ⊢
  have hA : ∀ q : Nat, s.heap.size ≤ q → A q := fun q h => by rw [← hAe]; exact Or.inr h
  have hS : va_S A s.heap s.heap [] := va_S.rf
  have hl := lv_entry ([.ref (am 0), .int t, .int day]) (n := 3) (Nat.le_of_ble_eq_true rfl)
  rw [lg_entry_eq]
  generalize (lg_sl ([.ref (am 0), .int t, .int day]) ++ List.replicate (3 - (lg_sl ([.ref (am 0), .int t, .int day])).length) Slot.unset).toArray = ls at hl ⊢
  have hl : lv_has ls 3 [(0, .ref (am 0)), (1, .int t), (2, .int day)] := hl
  generalize hF : F_X5_end z v f t day = R9
  generalize hQ9 : MQ below _ _ s 0 0 A = Q9
  rw [F_X5_end] at hF
  refine lv_aload_n hx hb dX5_end_0 rfl (lv_at hl 0 rfl) ?_
  refine lv_iconst (v := 0) hx hb dX5_end_1 (by decide) ?_
  refine va_put (D := (dC, dI)) (ci := 5) (v := .int 0) (ty := .int) (C := RX5) (T := TX5) (N := 25) hx hb hts hinX5 tyX5 tyX5_ok nmX5 hown hK hP hD hS 0 rfl rfl 0 (by decide) hfl66 (fun _ h9 => h9) rfl (by decide +kernel) rfl rfl (Nat.le_of_ble_eq_true rfl) dX5_end_2 (fun H locs hP hD hS => ?_)
  have hP : va_P (dC, dI) vwCl (wM am cI cZ 0 z v f) H := hP
  have hD : va_D A (wM am cI cZ 0 z v f) := hD
  refine lv_aload_n hx hb dX5_end_5 rfl (lv_at hl 0 rfl) ?_
  refine lv_iload_n hx hb dX5_end_6 rfl (lv_at hl 1 rfl) ?_
  refine vp_callSi (W.runV (As := [.int t]) (rest := []) ⟨hx, hb, hml, hown, hts⟩ (c_X5_isTrader l dC dI am cI cZ 0 z v f t hok) (cwV 1 hts gX5_end_X5_isTrader rfl rfl rfl (by decide +kernel) ⟨Nat.le_of_ble_eq_true rfl, Nat.le_of_ble_eq_true rfl⟩) (preM (ci := 5) (q0 := 0) hP hK hN rfl rfl rfl) rfl rfl hl.1 rfl (lv_room (Nat.le_of_ble_eq_true rfl)) dX5_end_7 ⟨Nat.zero_le _, Nat.zero_le _⟩) (fun r1 h9 => ?_)
  have hr1 : r1 = F_X5_isTrader z v f t := h9
  try rw [← hr1] at hF
  refine lv_if_eq (tgt := 29) hx hb dX5_end_10 (by decide) (fun c2 => ?_) (fun c2 => ?_)
  · rw [if_pos c2] at hF
    have c2f : F_X5_isTrader z v f t = 0 := by rw [← hr1]; exact c2
    refine lv_iconst (v := 0) hx hb dX5_end_29 (by decide) ?_
    subst hF
    subst hQ9
    exact W.zret (ty := .boolean) (v := 0) hx hb hr rfl (fun t9 ht hW => ⟨⟨0, (), rfl, rfl, by show va_P (dC, dI) vwCl _ t9.heap; rw [ht]; exact hP⟩, hS.F ht⟩) hS.2.2 dX5_end_30
  · rw [if_neg c2] at hF
    have c2f : ¬ F_X5_isTrader z v f t = 0 := by rw [← hr1]; exact c2
    refine lv_iload_n hx hb dX5_end_13 rfl (lv_at hl 2 rfl) ?_
    refine vp_callSi (W.runS (As := [.int day]) (rest := []) ⟨hx, hb, hml, hown, hts⟩ (c_X5_isDay l day) (cwS 1 hts gX5_end_X5_isDay rfl rfl rfl (by decide +kernel) ⟨Nat.le_of_ble_eq_true rfl, Nat.le_of_ble_eq_true rfl⟩) preT rfl rfl hl.1 rfl (lv_room (Nat.le_of_ble_eq_true rfl)) dX5_end_14 ⟨Nat.zero_le _, Nat.zero_le _⟩) (fun r3 h9 => ?_)
    have hr3 : r3 = F_X5_isDay day := h9
    try rw [← hr3] at hF
    refine lv_if_eq (tgt := 29) hx hb dX5_end_17 (by decide) (fun c4 => ?_) (fun c4 => ?_)
    · rw [if_pos c4] at hF
      have c4f : F_X5_isDay day = 0 := by rw [← hr3]; exact c4
      refine lv_iconst (v := 0) hx hb dX5_end_29 (by decide) ?_
      subst hF
      subst hQ9
      exact W.zret (ty := .boolean) (v := 0) hx hb hr rfl (fun t9 ht hW => ⟨⟨0, (), rfl, rfl, by show va_P (dC, dI) vwCl _ t9.heap; rw [ht]; exact hP⟩, hS.F ht⟩) hS.2.2 dX5_end_30
    · rw [if_neg c4] at hF
      have c4f : ¬ F_X5_isDay day = 0 := by rw [← hr3]; exact c4
      refine lv_aload_n hx hb dX5_end_20 rfl (lv_at hl 0 rfl) ?_
      refine va_get (D := (dC, dI)) (ci := 5) (v := .ref (am 4)) (C := RX5) (T := TX5) (N := 25) hx hb hts hinX5 hown hK hP 0 rfl rfl 9 (by decide) hfl19 (fun _ h9 => h9) rfl dX5_end_21 ?_
      refine lv_iload_n hx hb dX5_end_24 rfl (lv_at hl 1 rfl) ?_
      refine va_iald hx hb hK hP 4 0 rfl rfl (in_isTM hok c2f) dX5_end_25 ?_
      refine lv_if_lt (tgt := 31) hx hb dX5_end_26 (by decide) (fun c5 => ?_) (fun c5 => ?_)
      · rw [if_pos c5] at hF
        refine lv_aload_n hx hb dX5_end_31 rfl (lv_at hl 0 rfl) ?_
        refine va_get (D := (dC, dI)) (ci := 5) (v := .ref (am 4)) (C := RX5) (T := TX5) (N := 25) hx hb hts hinX5 hown hK hP 0 rfl rfl 9 (by decide) hfl19 (fun _ h9 => h9) rfl dX5_end_32 ?_
        refine lv_iload_n hx hb dX5_end_35 rfl (lv_at hl 1 rfl) ?_
        refine lv_iload_n hx hb dX5_end_36 rfl (lv_at hl 2 rfl) ?_
        refine va_iast hx hb hK hP hD hS 4 0 rfl rfl (in_isTM hok c2f) dX5_end_37 (fun H locs hP hD hS => ?_)
        have hP : va_P (dC, dI) vwCl (wM am cI cZ 0 z v (uu f 3 (upd (f 3) t.toNatClampNeg day))) H := hP
        have hD : va_D A (wM am cI cZ 0 z v (uu f 3 (upd (f 3) t.toNatClampNeg day))) := hD
        refine lv_iconst (v := 1) hx hb dX5_end_38 (by decide) ?_
        subst hF
        subst hQ9
        exact W.zret (ty := .boolean) (v := 1) hx hb hr rfl (fun t9 ht hW => ⟨⟨1, (), rfl, rfl, by show va_P (dC, dI) vwCl _ t9.heap; rw [ht]; exact hP⟩, hS.F ht⟩) hS.2.2 dX5_end_39
      · rw [if_neg c5] at hF
        refine lv_iconst (v := 0) hx hb dX5_end_29 (by decide) ?_
        subst hF
        subst hQ9
        exact W.zret (ty := .boolean) (v := 0) hx hb hr rfl (fun t9 ht hW => ⟨⟨0, (), rfl, rfl, by show va_P (dC, dI) vwCl _ t9.heap; rw [ht]; exact hP⟩, hS.F ht⟩) hS.2.2 dX5_end_30
def F_X5_two (z : Nat → Nat) (v : Nat → Int32) (f : Nat → Nat → Int32) (a b : Int32) : Int32 × Int32 × (Nat → Nat) × (Nat → Int32) × (Nat → Nat → Int32) :=
  if F_X5_isEight a = 0 then
    (0, 0, z, v, f)
  else
    if (((v 1) >>> (a &&& 31)) &&& 1) = 1 then
      if 1 = b then
        (0, 0, z, v, f)
      else
        if b = 0 then
          (1, 0, z, uu v 1 ((v 1) + (-(1 <<< (a &&& 31)))), f)
        else
          (1, 0, z, uu v 1 ((v 1) + (1 <<< (a &&& 31))), f)
    else
      if 0 = b then
        (0, 0, z, v, f)
      else
        if b = 0 then
          (1, 0, z, uu v 1 ((v 1) + (-(1 <<< (a &&& 31)))), f)
        else
          (1, 0, z, uu v 1 ((v 1) + (1 <<< (a &&& 31))), f)
set_option maxHeartbeats 4000000 in
set_option maxRecDepth 100000 in
theorem c_X5_two (l : Launch) (dC : Nat → ClassId) (dI : Nat → Nat → Nat) (am : Nat → Nat) (cI cZ : ClassId) (th : Int32) (z : Nat → Nat) (v : Nat → Int32) (f : Nat → Nat → Int32) (sz : Nat) (a b : Int32) (hok : okM z v f) : Met l yX5_two wsX5_two ({ frames := 2, cells := 0, slots := 0, locals := 42 }) (va_Pc [.ref (am 0), .int a, .int b] (fun U => U.heap.size = sz ∧ va_D (fun _ => True) (wM am cI cZ th z v f) ∧ kM dC dI am cI cZ th z v f U)) (va_Qi (fun (r : Int32) (_ : Unit) => r = (F_X5_two z v f a b).1) (fun _ U9 => va_P (dC, dI) vwCl (wM am cI cZ ((F_X5_two z v f a b).2.1) ((F_X5_two z v f a b).2.2.1) ((F_X5_two z v f a b).2.2.2.1) ((F_X5_two z v f a b).2.2.2.2)) U9.heap) (va_A (wM am cI cZ th z v f) sz)) 0 0 (va_A (wM am cI cZ th z v f) sz) := by
  refine Met.ofW (cc := cX5_two) (maxL := 3) (ret := (some .boolean)) (by decide) rfl ?_
  intro p e s m args below meth c s₁ B hml hv
  obtain ⟨rfl, hsz, hD0, hP, hK, hN⟩ := hv
  have hx := B.exec
  have hb := B.bytes
  have hr := B.returns
  have hts := atoms_spec (ws := wsX5_two) B.pre
  have hown : s.vm.findClass RX5 = some m.cls := findClass_of_methodNamed B.named
  have hlocks := B.notSynchronized
  have hok9 := hok
  obtain ⟨hz0, hz1, hz2, hz3, hz4, hbz, hbs, hdp, hgv⟩ := hok9
  have hfl135 := hts (.fieldLink RX5 135 "TraderRightsModel" "twos" "I") (List.mem_of_getElem? (i := 2) rfl)
  have hfl66 := hts (.fieldLink RX5 66 "TraderRightsModel" "thrown" "I") (List.mem_of_getElem? (i := 1) rfl)
  have hinX5 : ∀ w ∈ u_ws RX5 TX5 25, w ∈ wsX5_two := fun w h => List.mem_cons_of_mem _ (List.mem_append_right _ h)
  subst hsz
  have hD := hD0.self (sz := s.heap.size)
  generalize hAe : va_A (wM am cI cZ th z v f) s.heap.size = A at hD ⊢
  have hA : ∀ q : Nat, s.heap.size ≤ q → A q := fun q h => by rw [← hAe]; exact Or.inr h
  have hS : va_S A s.heap s.heap [] := va_S.rf
  have hl := lv_entry ([.ref (am 0), .int a, .int b]) (n := 3) (Nat.le_of_ble_eq_true rfl)
  rw [lg_entry_eq]
  generalize (lg_sl ([.ref (am 0), .int a, .int b]) ++ List.replicate (3 - (lg_sl ([.ref (am 0), .int a, .int b])).length) Slot.unset).toArray = ls at hl ⊢
  have hl : lv_has ls 3 [(0, .ref (am 0)), (1, .int a), (2, .int b)] := hl
  generalize hF : F_X5_two z v f a b = R9
  generalize hQ9 : MQ below _ _ s 0 0 A = Q9
  rw [F_X5_two] at hF
  refine lv_aload_n hx hb dX5_two_0 rfl (lv_at hl 0 rfl) ?_
  refine lv_iconst (v := 0) hx hb dX5_two_1 (by decide) ?_
  refine va_put (D := (dC, dI)) (ci := 5) (v := .int 0) (ty := .int) (C := RX5) (T := TX5) (N := 25) hx hb hts hinX5 tyX5 tyX5_ok nmX5 hown hK hP hD hS 0 rfl rfl 0 (by decide) hfl66 (fun _ h9 => h9) rfl (by decide +kernel) rfl rfl (Nat.le_of_ble_eq_true rfl) dX5_two_2 (fun H locs hP hD hS => ?_)
  have hP : va_P (dC, dI) vwCl (wM am cI cZ 0 z v f) H := hP
  have hD : va_D A (wM am cI cZ 0 z v f) := hD
  refine lv_iload_n hx hb dX5_two_5 rfl (lv_at hl 1 rfl) ?_
  refine vp_callSi (W.runS (As := [.int a]) (rest := []) ⟨hx, hb, hml, hown, hts⟩ (c_X5_isEight l a) (cwS 1 hts gX5_two_X5_isEight rfl rfl rfl (by decide +kernel) ⟨Nat.le_of_ble_eq_true rfl, Nat.le_of_ble_eq_true rfl⟩) preT rfl rfl hl.1 rfl (lv_room (Nat.le_of_ble_eq_true rfl)) dX5_two_6 ⟨Nat.zero_le _, Nat.zero_le _⟩) (fun r1 h9 => ?_)
  have hr1 : r1 = F_X5_isEight a := h9
  try rw [← hr1] at hF
  refine lv_if_eq (tgt := 33) hx hb dX5_two_9 (by decide) (fun c2 => ?_) (fun c2 => ?_)
  · rw [if_pos c2] at hF
    have c2f : F_X5_isEight a = 0 := by rw [← hr1]; exact c2
    refine lv_iconst (v := 0) hx hb dX5_two_33 (by decide) ?_
    subst hF
    subst hQ9
    exact W.zret (ty := .boolean) (v := 0) hx hb hr rfl (fun t9 ht hW => ⟨⟨0, (), rfl, rfl, by show va_P (dC, dI) vwCl _ t9.heap; rw [ht]; exact hP⟩, hS.F ht⟩) hS.2.2 dX5_two_34
  · rw [if_neg c2] at hF
    have c2f : ¬ F_X5_isEight a = 0 := by rw [← hr1]; exact c2
    refine lv_aload_n hx hb dX5_two_12 rfl (lv_at hl 0 rfl) ?_
    refine va_get (D := (dC, dI)) (ci := 5) (v := .int (v 1)) (C := RX5) (T := TX5) (N := 25) hx hb hts hinX5 hown hK hP 0 rfl rfl 5 (by decide) hfl135 (fun _ h9 => h9) rfl dX5_two_13 ?_
    refine lv_iload_n hx hb dX5_two_16 rfl (lv_at hl 1 rfl) ?_
    refine lv_ishr hx hb dX5_two_17 ?_
    refine lv_iconst (v := 1) hx hb dX5_two_18 (by decide) ?_
    refine lv_iand hx hb dX5_two_19 ?_
    refine lv_iconst (v := 1) hx hb dX5_two_20 (by decide) ?_
    refine lv_icmp_ne (tgt := 28) hx hb dX5_two_21 (by decide) (fun c3 => ?_) (fun c3 => ?_)
    · rw [if_neg c3] at hF
      refine lv_iconst (v := 0) hx hb dX5_two_28 (by decide) ?_
      refine lv_iload_n hx hb dX5_two_29 rfl (lv_at hl 2 rfl) ?_
      refine lv_icmp_ne (tgt := 35) hx hb dX5_two_30 (by decide) (fun c4 => ?_) (fun c4 => ?_)
      · rw [if_neg c4] at hF
        refine lv_aload_n hx hb dX5_two_35 rfl (lv_at hl 0 rfl) ?_
        refine lv_dup hx hb dX5_two_36 rfl ?_
        refine va_get (D := (dC, dI)) (ci := 5) (v := .int (v 1)) (C := RX5) (T := TX5) (N := 25) hx hb hts hinX5 hown hK hP 0 rfl rfl 5 (by decide) hfl135 (fun _ h9 => h9) rfl dX5_two_37 ?_
        refine lv_iload_n hx hb dX5_two_40 rfl (lv_at hl 2 rfl) ?_
        refine lv_if_eq (tgt := 50) hx hb dX5_two_41 (by decide) (fun c5 => ?_) (fun c5 => ?_)
        · rw [if_pos c5] at hF
          refine lv_iconst (v := 1) hx hb dX5_two_50 (by decide) ?_
          refine lv_iload_n hx hb dX5_two_51 rfl (lv_at hl 1 rfl) ?_
          refine lv_ishl hx hb dX5_two_52 ?_
          refine lv_ineg hx hb dX5_two_53 ?_
          refine lv_iadd hx hb dX5_two_54 ?_
          refine va_put (D := (dC, dI)) (ci := 5) (v := .int ((v 1) + (-(1 <<< (a &&& 31))))) (ty := .int) (C := RX5) (T := TX5) (N := 25) hx hb hts hinX5 tyX5 tyX5_ok nmX5 hown hK hP hD hS 0 rfl rfl 5 (by decide) hfl135 (fun _ h9 => h9) rfl (by decide +kernel) rfl rfl (Nat.le_of_ble_eq_true rfl) dX5_two_55 (fun H locs hP hD hS => ?_)
          have hP : va_P (dC, dI) vwCl (wM am cI cZ 0 z (uu v 1 ((v 1) + (-(1 <<< (a &&& 31))))) f) H := hP
          have hD : va_D A (wM am cI cZ 0 z (uu v 1 ((v 1) + (-(1 <<< (a &&& 31))))) f) := hD
          refine lv_iconst (v := 1) hx hb dX5_two_58 (by decide) ?_
          subst hF
          subst hQ9
          exact W.zret (ty := .boolean) (v := 1) hx hb hr rfl (fun t9 ht hW => ⟨⟨1, (), rfl, rfl, by show va_P (dC, dI) vwCl _ t9.heap; rw [ht]; exact hP⟩, hS.F ht⟩) hS.2.2 dX5_two_59
        · rw [if_neg c5] at hF
          refine lv_iconst (v := 1) hx hb dX5_two_44 (by decide) ?_
          refine lv_iload_n hx hb dX5_two_45 rfl (lv_at hl 1 rfl) ?_
          refine lv_ishl hx hb dX5_two_46 ?_
          refine lv_goto (tgt := 54) hx hb dX5_two_47 (by decide) ?_
          refine lv_iadd hx hb dX5_two_54 ?_
          refine va_put (D := (dC, dI)) (ci := 5) (v := .int ((v 1) + (1 <<< (a &&& 31)))) (ty := .int) (C := RX5) (T := TX5) (N := 25) hx hb hts hinX5 tyX5 tyX5_ok nmX5 hown hK hP hD hS 0 rfl rfl 5 (by decide) hfl135 (fun _ h9 => h9) rfl (by decide +kernel) rfl rfl (Nat.le_of_ble_eq_true rfl) dX5_two_55 (fun H locs hP hD hS => ?_)
          have hP : va_P (dC, dI) vwCl (wM am cI cZ 0 z (uu v 1 ((v 1) + (1 <<< (a &&& 31)))) f) H := hP
          have hD : va_D A (wM am cI cZ 0 z (uu v 1 ((v 1) + (1 <<< (a &&& 31)))) f) := hD
          refine lv_iconst (v := 1) hx hb dX5_two_58 (by decide) ?_
          subst hF
          subst hQ9
          exact W.zret (ty := .boolean) (v := 1) hx hb hr rfl (fun t9 ht hW => ⟨⟨1, (), rfl, rfl, by show va_P (dC, dI) vwCl _ t9.heap; rw [ht]; exact hP⟩, hS.F ht⟩) hS.2.2 dX5_two_59
      · rw [if_pos c4] at hF
        refine lv_iconst (v := 0) hx hb dX5_two_33 (by decide) ?_
        subst hF
        subst hQ9
        exact W.zret (ty := .boolean) (v := 0) hx hb hr rfl (fun t9 ht hW => ⟨⟨0, (), rfl, rfl, by show va_P (dC, dI) vwCl _ t9.heap; rw [ht]; exact hP⟩, hS.F ht⟩) hS.2.2 dX5_two_34
    · rw [if_pos c3] at hF
      refine lv_iconst (v := 1) hx hb dX5_two_24 (by decide) ?_
      refine lv_goto (tgt := 29) hx hb dX5_two_25 (by decide) ?_
      refine lv_iload_n hx hb dX5_two_29 rfl (lv_at hl 2 rfl) ?_
      refine lv_icmp_ne (tgt := 35) hx hb dX5_two_30 (by decide) (fun c6 => ?_) (fun c6 => ?_)
      · rw [if_neg c6] at hF
        refine lv_aload_n hx hb dX5_two_35 rfl (lv_at hl 0 rfl) ?_
        refine lv_dup hx hb dX5_two_36 rfl ?_
        refine va_get (D := (dC, dI)) (ci := 5) (v := .int (v 1)) (C := RX5) (T := TX5) (N := 25) hx hb hts hinX5 hown hK hP 0 rfl rfl 5 (by decide) hfl135 (fun _ h9 => h9) rfl dX5_two_37 ?_
        refine lv_iload_n hx hb dX5_two_40 rfl (lv_at hl 2 rfl) ?_
        refine lv_if_eq (tgt := 50) hx hb dX5_two_41 (by decide) (fun c7 => ?_) (fun c7 => ?_)
        · rw [if_pos c7] at hF
          refine lv_iconst (v := 1) hx hb dX5_two_50 (by decide) ?_
          refine lv_iload_n hx hb dX5_two_51 rfl (lv_at hl 1 rfl) ?_
          refine lv_ishl hx hb dX5_two_52 ?_
          refine lv_ineg hx hb dX5_two_53 ?_
          refine lv_iadd hx hb dX5_two_54 ?_
          refine va_put (D := (dC, dI)) (ci := 5) (v := .int ((v 1) + (-(1 <<< (a &&& 31))))) (ty := .int) (C := RX5) (T := TX5) (N := 25) hx hb hts hinX5 tyX5 tyX5_ok nmX5 hown hK hP hD hS 0 rfl rfl 5 (by decide) hfl135 (fun _ h9 => h9) rfl (by decide +kernel) rfl rfl (Nat.le_of_ble_eq_true rfl) dX5_two_55 (fun H locs hP hD hS => ?_)
          have hP : va_P (dC, dI) vwCl (wM am cI cZ 0 z (uu v 1 ((v 1) + (-(1 <<< (a &&& 31))))) f) H := hP
          have hD : va_D A (wM am cI cZ 0 z (uu v 1 ((v 1) + (-(1 <<< (a &&& 31))))) f) := hD
          refine lv_iconst (v := 1) hx hb dX5_two_58 (by decide) ?_
          subst hF
          subst hQ9
          exact W.zret (ty := .boolean) (v := 1) hx hb hr rfl (fun t9 ht hW => ⟨⟨1, (), rfl, rfl, by show va_P (dC, dI) vwCl _ t9.heap; rw [ht]; exact hP⟩, hS.F ht⟩) hS.2.2 dX5_two_59
        · rw [if_neg c7] at hF
          refine lv_iconst (v := 1) hx hb dX5_two_44 (by decide) ?_
          refine lv_iload_n hx hb dX5_two_45 rfl (lv_at hl 1 rfl) ?_
          refine lv_ishl hx hb dX5_two_46 ?_
          refine lv_goto (tgt := 54) hx hb dX5_two_47 (by decide) ?_
          refine lv_iadd hx hb dX5_two_54 ?_
          refine va_put (D := (dC, dI)) (ci := 5) (v := .int ((v 1) + (1 <<< (a &&& 31)))) (ty := .int) (C := RX5) (T := TX5) (N := 25) hx hb hts hinX5 tyX5 tyX5_ok nmX5 hown hK hP hD hS 0 rfl rfl 5 (by decide) hfl135 (fun _ h9 => h9) rfl (by decide +kernel) rfl rfl (Nat.le_of_ble_eq_true rfl) dX5_two_55 (fun H locs hP hD hS => ?_)
          have hP : va_P (dC, dI) vwCl (wM am cI cZ 0 z (uu v 1 ((v 1) + (1 <<< (a &&& 31)))) f) H := hP
          have hD : va_D A (wM am cI cZ 0 z (uu v 1 ((v 1) + (1 <<< (a &&& 31)))) f) := hD
          refine lv_iconst (v := 1) hx hb dX5_two_58 (by decide) ?_
          subst hF
          subst hQ9
          exact W.zret (ty := .boolean) (v := 1) hx hb hr rfl (fun t9 ht hW => ⟨⟨1, (), rfl, rfl, by show va_P (dC, dI) vwCl _ t9.heap; rw [ht]; exact hP⟩, hS.F ht⟩) hS.2.2 dX5_two_59
      · rw [if_pos c6] at hF
        refine lv_iconst (v := 0) hx hb dX5_two_33 (by decide) ?_
        subst hF
        subst hQ9
        exact W.zret (ty := .boolean) (v := 0) hx hb hr rfl (fun t9 ht hW => ⟨⟨0, (), rfl, rfl, by show va_P (dC, dI) vwCl _ t9.heap; rw [ht]; exact hP⟩, hS.F ht⟩) hS.2.2 dX5_two_34
def F_X5_deputy (z : Nat → Nat) (v : Nat → Int32) (f : Nat → Nat → Int32) (t u : Int32) : Int32 × Int32 × (Nat → Nat) × (Nat → Int32) × (Nat → Nat → Int32) :=
  if F_X5_areTwo z v f t u = 0 then
    (0, 1, z, v, f)
  else
    if 0 ≤ f 2 t.toNatClampNeg then
      (0, 0, z, v, f)
    else
      if 0 ≤ f 2 u.toNatClampNeg then
        (0, 0, z, v, f)
      else
        if 0 ≤ F_X5_withDeputy z v f t then
          (0, 0, z, v, f)
        else
          if F_X5_withDeputy z v f u < 0 then
            (1, 0, z, v, uu f 2 (upd (f 2) u.toNatClampNeg t))
          else
            (0, 0, z, v, f)
set_option maxHeartbeats 4000000 in
set_option maxRecDepth 100000 in
theorem c_X5_deputy (l : Launch) (dC : Nat → ClassId) (dI : Nat → Nat → Nat) (am : Nat → Nat) (cI cZ : ClassId) (th : Int32) (z : Nat → Nat) (v : Nat → Int32) (f : Nat → Nat → Int32) (sz : Nat) (t u : Int32) (hok : okM z v f) : Met l yX5_deputy wsX5_deputy ({ frames := 2, cells := 0, slots := 0, locals := 43 }) (va_Pc [.ref (am 0), .int t, .int u] (fun U => U.heap.size = sz ∧ va_D (fun _ => True) (wM am cI cZ th z v f) ∧ kM dC dI am cI cZ th z v f U)) (va_Qi (fun (r : Int32) (_ : Unit) => r = (F_X5_deputy z v f t u).1) (fun _ U9 => va_P (dC, dI) vwCl (wM am cI cZ ((F_X5_deputy z v f t u).2.1) ((F_X5_deputy z v f t u).2.2.1) ((F_X5_deputy z v f t u).2.2.2.1) ((F_X5_deputy z v f t u).2.2.2.2)) U9.heap) (va_A (wM am cI cZ th z v f) sz)) 0 0 (va_A (wM am cI cZ th z v f) sz) := by
  refine Met.ofW (cc := cX5_deputy) (maxL := 3) (ret := (some .int)) (by decide) rfl ?_
  intro p e s m args below meth c s₁ B hml hv
  obtain ⟨rfl, hsz, hD0, hP, hK, hN⟩ := hv
  have hx := B.exec
  have hb := B.bytes
  have hr := B.returns
  have hts := atoms_spec (ws := wsX5_deputy) B.pre
  have hown : s.vm.findClass RX5 = some m.cls := findClass_of_methodNamed B.named
  have hlocks := B.notSynchronized
  have hok9 := hok
  obtain ⟨hz0, hz1, hz2, hz3, hz4, hbz, hbs, hdp, hgv⟩ := hok9
  have hfl16 := hts (.fieldLink RX5 16 "TraderRightsModel" "deputyOf" "[I") (List.mem_of_getElem? (i := 2) rfl)
  have hfl66 := hts (.fieldLink RX5 66 "TraderRightsModel" "thrown" "I") (List.mem_of_getElem? (i := 1) rfl)
  have hinX5 : ∀ w ∈ u_ws RX5 TX5 25, w ∈ wsX5_deputy := fun w h => List.mem_cons_of_mem _ (List.mem_append_right _ h)
  subst hsz
  have hD := hD0.self (sz := s.heap.size)
  generalize hAe : va_A (wM am cI cZ th z v f) s.heap.size = A at hD ⊢
  have hA : ∀ q : Nat, s.heap.size ≤ q → A q := fun q h => by rw [← hAe]; exact Or.inr h
  have hS : va_S A s.heap s.heap [] := va_S.rf
  have hl := lv_entry ([.ref (am 0), .int t, .int u]) (n := 3) (Nat.le_of_ble_eq_true rfl)
  rw [lg_entry_eq]
  generalize (lg_sl ([.ref (am 0), .int t, .int u]) ++ List.replicate (3 - (lg_sl ([.ref (am 0), .int t, .int u])).length) Slot.unset).toArray = ls at hl ⊢
  have hl : lv_has ls 3 [(0, .ref (am 0)), (1, .int t), (2, .int u)] := hl
  generalize hF : F_X5_deputy z v f t u = R9
  generalize hQ9 : MQ below _ _ s 0 0 A = Q9
  rw [F_X5_deputy] at hF
  refine lv_aload_n hx hb dX5_deputy_0 rfl (lv_at hl 0 rfl) ?_
  refine lv_aload_n hx hb dX5_deputy_1 rfl (lv_at hl 0 rfl) ?_
  refine lv_iload_n hx hb dX5_deputy_2 rfl (lv_at hl 1 rfl) ?_
  refine lv_iload_n hx hb dX5_deputy_3 rfl (lv_at hl 2 rfl) ?_
  refine vp_callSi (W.runV (As := [.int t, .int u]) (rest := [.ref (am 0)]) ⟨hx, hb, hml, hown, hts⟩ (c_X5_areTwo l dC dI am cI cZ th z v f t u hok) (cwV 2 hts gX5_deputy_X5_areTwo rfl rfl rfl (by decide +kernel) ⟨Nat.le_of_ble_eq_true rfl, Nat.le_of_ble_eq_true rfl⟩) (preM (ci := 5) (q0 := 0) hP hK hN rfl rfl rfl) rfl rfl hl.1 rfl (lv_room (Nat.le_of_ble_eq_true rfl)) dX5_deputy_4 ⟨Nat.zero_le _, Nat.zero_le _⟩) (fun r1 h9 => ?_)
  have hr1 : r1 = F_X5_areTwo z v f t u := h9
  try rw [← hr1] at hF
  refine lv_if_eq (tgt := 14) hx hb dX5_deputy_7 (by decide) (fun c2 => ?_) (fun c2 => ?_)
  · rw [if_pos c2] at hF
    have c2f : F_X5_areTwo z v f t u = 0 := by rw [← hr1]; exact c2
    refine lv_iconst (v := 1) hx hb dX5_deputy_14 (by decide) ?_
    refine va_put (D := (dC, dI)) (ci := 5) (v := .int 1) (ty := .int) (C := RX5) (T := TX5) (N := 25) hx hb hts hinX5 tyX5 tyX5_ok nmX5 hown hK hP hD hS 0 rfl rfl 0 (by decide) hfl66 (fun _ h9 => h9) rfl (by decide +kernel) rfl rfl (Nat.le_of_ble_eq_true rfl) dX5_deputy_15 (fun H locs hP hD hS => ?_)
    have hP : va_P (dC, dI) vwCl (wM am cI cZ 1 z v f) H := hP
    have hD : va_D A (wM am cI cZ 1 z v f) := hD
    refine lv_aload_n hx hb dX5_deputy_18 rfl (lv_at hl 0 rfl) ?_
    refine va_get (D := (dC, dI)) (ci := 5) (v := .int 1) (C := RX5) (T := TX5) (N := 25) hx hb hts hinX5 hown hK hP 0 rfl rfl 0 (by decide) hfl66 (fun _ h9 => h9) rfl dX5_deputy_19 ?_
    refine lv_if_gt (tgt := 59) hx hb dX5_deputy_22 (by decide) (fun _ => ?_) (fun c9 => absurd c9 (by decide))
    refine lv_iconst (v := 0) hx hb dX5_deputy_59 (by decide) ?_
    subst hF
    subst hQ9
    exact W.iret (v := 0) hx hb hr (fun t9 ht hW => ⟨⟨0, (), rfl, rfl, by show va_P (dC, dI) vwCl _ t9.heap; rw [ht]; exact hP⟩, hS.F ht⟩) hS.2.2 dX5_deputy_60
  · rw [if_neg c2] at hF
    have c2f : ¬ F_X5_areTwo z v f t u = 0 := by rw [← hr1]; exact c2
    refine lv_iconst (v := 0) hx hb dX5_deputy_10 (by decide) ?_
    refine lv_goto (tgt := 15) hx hb dX5_deputy_11 (by decide) ?_
    refine va_put (D := (dC, dI)) (ci := 5) (v := .int 0) (ty := .int) (C := RX5) (T := TX5) (N := 25) hx hb hts hinX5 tyX5 tyX5_ok nmX5 hown hK hP hD hS 0 rfl rfl 0 (by decide) hfl66 (fun _ h9 => h9) rfl (by decide +kernel) rfl rfl (Nat.le_of_ble_eq_true rfl) dX5_deputy_15 (fun H locs hP hD hS => ?_)
    have hP : va_P (dC, dI) vwCl (wM am cI cZ 0 z v f) H := hP
    have hD : va_D A (wM am cI cZ 0 z v f) := hD
    refine lv_aload_n hx hb dX5_deputy_18 rfl (lv_at hl 0 rfl) ?_
    refine va_get (D := (dC, dI)) (ci := 5) (v := .int 0) (C := RX5) (T := TX5) (N := 25) hx hb hts hinX5 hown hK hP 0 rfl rfl 0 (by decide) hfl66 (fun _ h9 => h9) rfl dX5_deputy_19 ?_
    refine lv_if_gt (tgt := 59) hx hb dX5_deputy_22 (by decide) (fun c9 => absurd c9 (by decide)) (fun _ => ?_)
    refine lv_aload_n hx hb dX5_deputy_25 rfl (lv_at hl 0 rfl) ?_
    refine va_get (D := (dC, dI)) (ci := 5) (v := .ref (am 3)) (C := RX5) (T := TX5) (N := 25) hx hb hts hinX5 hown hK hP 0 rfl rfl 8 (by decide) hfl16 (fun _ h9 => h9) rfl dX5_deputy_26 ?_
    refine lv_iload_n hx hb dX5_deputy_29 rfl (lv_at hl 1 rfl) ?_
    refine va_iald hx hb hK hP 3 0 rfl rfl (in_twoM hok c2f) dX5_deputy_30 ?_
    refine lv_if_ge (tgt := 59) hx hb dX5_deputy_31 (by decide) (fun c3 => ?_) (fun c3 => ?_)
    · rw [if_pos c3] at hF
      refine lv_iconst (v := 0) hx hb dX5_deputy_59 (by decide) ?_
      subst hF
      subst hQ9
      exact W.iret (v := 0) hx hb hr (fun t9 ht hW => ⟨⟨0, (), rfl, rfl, by show va_P (dC, dI) vwCl _ t9.heap; rw [ht]; exact hP⟩, hS.F ht⟩) hS.2.2 dX5_deputy_60
    · rw [if_neg c3] at hF
      refine lv_aload_n hx hb dX5_deputy_34 rfl (lv_at hl 0 rfl) ?_
      refine va_get (D := (dC, dI)) (ci := 5) (v := .ref (am 3)) (C := RX5) (T := TX5) (N := 25) hx hb hts hinX5 hown hK hP 0 rfl rfl 8 (by decide) hfl16 (fun _ h9 => h9) rfl dX5_deputy_35 ?_
      refine lv_iload_n hx hb dX5_deputy_38 rfl (lv_at hl 2 rfl) ?_
      refine va_iald hx hb hK hP 3 0 rfl rfl (in_towM hok c2f) dX5_deputy_39 ?_
      refine lv_if_ge (tgt := 59) hx hb dX5_deputy_40 (by decide) (fun c4 => ?_) (fun c4 => ?_)
      · rw [if_pos c4] at hF
        refine lv_iconst (v := 0) hx hb dX5_deputy_59 (by decide) ?_
        subst hF
        subst hQ9
        exact W.iret (v := 0) hx hb hr (fun t9 ht hW => ⟨⟨0, (), rfl, rfl, by show va_P (dC, dI) vwCl _ t9.heap; rw [ht]; exact hP⟩, hS.F ht⟩) hS.2.2 dX5_deputy_60
      · rw [if_neg c4] at hF
        refine lv_aload_n hx hb dX5_deputy_43 rfl (lv_at hl 0 rfl) ?_
        refine lv_iload_n hx hb dX5_deputy_44 rfl (lv_at hl 1 rfl) ?_
        refine vp_callSi (W.runV (As := [.int t]) (rest := []) ⟨hx, hb, hml, hown, hts⟩ (c_X5_withDeputy l dC dI am cI cZ 0 z v f t hok) (cwV 1 hts gX5_deputy_X5_withDeputy rfl rfl rfl (by decide +kernel) ⟨Nat.le_of_ble_eq_true rfl, Nat.le_of_ble_eq_true rfl⟩) (preM (ci := 5) (q0 := 0) hP hK hN rfl rfl rfl) rfl rfl hl.1 rfl (lv_room (Nat.le_of_ble_eq_true rfl)) dX5_deputy_45 ⟨Nat.zero_le _, Nat.zero_le _⟩) (fun r5 h9 => ?_)
        have hr5 : r5 = F_X5_withDeputy z v f t := h9
        try rw [← hr5] at hF
        refine lv_if_ge (tgt := 59) hx hb dX5_deputy_48 (by decide) (fun c6 => ?_) (fun c6 => ?_)
        · rw [if_pos c6] at hF
          have c6f : 0 ≤ F_X5_withDeputy z v f t := by rw [← hr5]; exact c6
          refine lv_iconst (v := 0) hx hb dX5_deputy_59 (by decide) ?_
          subst hF
          subst hQ9
          exact W.iret (v := 0) hx hb hr (fun t9 ht hW => ⟨⟨0, (), rfl, rfl, by show va_P (dC, dI) vwCl _ t9.heap; rw [ht]; exact hP⟩, hS.F ht⟩) hS.2.2 dX5_deputy_60
        · rw [if_neg c6] at hF
          have c6f : ¬ 0 ≤ F_X5_withDeputy z v f t := by rw [← hr5]; exact c6
          refine lv_aload_n hx hb dX5_deputy_51 rfl (lv_at hl 0 rfl) ?_
          refine lv_iload_n hx hb dX5_deputy_52 rfl (lv_at hl 2 rfl) ?_
          refine vp_callSi (W.runV (As := [.int u]) (rest := []) ⟨hx, hb, hml, hown, hts⟩ (c_X5_withDeputy l dC dI am cI cZ 0 z v f u hok) (cwV 1 hts gX5_deputy_X5_withDeputy rfl rfl rfl (by decide +kernel) ⟨Nat.le_of_ble_eq_true rfl, Nat.le_of_ble_eq_true rfl⟩) (preM (ci := 5) (q0 := 0) hP hK hN rfl rfl rfl) rfl rfl hl.1 rfl (lv_room (Nat.le_of_ble_eq_true rfl)) dX5_deputy_53 ⟨Nat.zero_le _, Nat.zero_le _⟩) (fun r7 h9 => ?_)
          have hr7 : r7 = F_X5_withDeputy z v f u := h9
          try rw [← hr7] at hF
          refine lv_if_lt (tgt := 61) hx hb dX5_deputy_56 (by decide) (fun c8 => ?_) (fun c8 => ?_)
          · rw [if_pos c8] at hF
            have c8f : F_X5_withDeputy z v f u < 0 := by rw [← hr7]; exact c8
            refine lv_aload_n hx hb dX5_deputy_61 rfl (lv_at hl 0 rfl) ?_
            refine va_get (D := (dC, dI)) (ci := 5) (v := .ref (am 3)) (C := RX5) (T := TX5) (N := 25) hx hb hts hinX5 hown hK hP 0 rfl rfl 8 (by decide) hfl16 (fun _ h9 => h9) rfl dX5_deputy_62 ?_
            refine lv_iload_n hx hb dX5_deputy_65 rfl (lv_at hl 2 rfl) ?_
            refine lv_iload_n hx hb dX5_deputy_66 rfl (lv_at hl 1 rfl) ?_
            refine va_iast hx hb hK hP hD hS 3 0 rfl rfl (in_towM hok c2f) dX5_deputy_67 (fun H locs hP hD hS => ?_)
            have hP : va_P (dC, dI) vwCl (wM am cI cZ 0 z v (uu f 2 (upd (f 2) u.toNatClampNeg t))) H := hP
            have hD : va_D A (wM am cI cZ 0 z v (uu f 2 (upd (f 2) u.toNatClampNeg t))) := hD
            refine lv_iconst (v := 1) hx hb dX5_deputy_68 (by decide) ?_
            subst hF
            subst hQ9
            exact W.iret (v := 1) hx hb hr (fun t9 ht hW => ⟨⟨1, (), rfl, rfl, by show va_P (dC, dI) vwCl _ t9.heap; rw [ht]; exact hP⟩, hS.F ht⟩) hS.2.2 dX5_deputy_69
          · rw [if_neg c8] at hF
            have c8f : ¬ F_X5_withDeputy z v f u < 0 := by rw [← hr7]; exact c8
            refine lv_iconst (v := 0) hx hb dX5_deputy_59 (by decide) ?_
            subst hF
            subst hQ9
            exact W.iret (v := 0) hx hb hr (fun t9 ht hW => ⟨⟨0, (), rfl, rfl, by show va_P (dC, dI) vwCl _ t9.heap; rw [ht]; exact hP⟩, hS.F ht⟩) hS.2.2 dX5_deputy_60
def F_X5_group (z : Nat → Nat) (v : Nat → Int32) (f : Nat → Nat → Int32) (t u : Int32) : Int32 × Int32 × (Nat → Nat) × (Nat → Int32) × (Nat → Nat → Int32) :=
  if F_X5_areTwo z v f t u = 0 then
    (0, 1, z, v, f)
  else
    if (((f 0 t.toNatClampNeg) >>> (u &&& 31)) &&& 1) = 1 then
      (0, 0, z, v, f)
    else
      if F_X5_bits (f 0 t.toNatClampNeg) = 4 then
        (0, 0, z, v, f)
      else
        if (((F_X5_reached z v f u (-1)) >>> (t &&& 31)) &&& 1) = 1 then
          (0, 0, z, v, f)
        else
          (1, 0, z, v, uu f 0 (upd (f 0) t.toNatClampNeg ((f 0 t.toNatClampNeg) ||| (1 <<< (u &&& 31)))))
set_option maxHeartbeats 4000000 in
set_option maxRecDepth 100000 in
theorem c_X5_group (l : Launch) (dC : Nat → ClassId) (dI : Nat → Nat → Nat) (am : Nat → Nat) (cI cZ : ClassId) (th : Int32) (z : Nat → Nat) (v : Nat → Int32) (f : Nat → Nat → Int32) (sz : Nat) (t u : Int32) (hok : okM z v f) : Met l yX5_group wsX5_group ({ frames := 3, cells := 0, slots := 0, locals := 74 }) (va_Pc [.ref (am 0), .int t, .int u] (fun U => U.heap.size = sz ∧ va_D (fun _ => True) (wM am cI cZ th z v f) ∧ kM dC dI am cI cZ th z v f U)) (va_Qi (fun (r : Int32) (_ : Unit) => r = (F_X5_group z v f t u).1) (fun _ U9 => va_P (dC, dI) vwCl (wM am cI cZ ((F_X5_group z v f t u).2.1) ((F_X5_group z v f t u).2.2.1) ((F_X5_group z v f t u).2.2.2.1) ((F_X5_group z v f t u).2.2.2.2)) U9.heap) (va_A (wM am cI cZ th z v f) sz)) 0 0 (va_A (wM am cI cZ th z v f) sz) := by
  refine Met.ofW (cc := cX5_group) (maxL := 3) (ret := (some .int)) (by decide) rfl ?_
  intro p e s m args below meth c s₁ B hml hv
  obtain ⟨rfl, hsz, hD0, hP, hK, hN⟩ := hv
  have hx := B.exec
  have hb := B.bytes
  have hr := B.returns
  have hts := atoms_spec (ws := wsX5_group) B.pre
  have hown : s.vm.findClass RX5 = some m.cls := findClass_of_methodNamed B.named
  have hlocks := B.notSynchronized
  have hok9 := hok
  obtain ⟨hz0, hz1, hz2, hz3, hz4, hbz, hbs, hdp, hgv⟩ := hok9
  have hfl66 := hts (.fieldLink RX5 66 "TraderRightsModel" "thrown" "I") (List.mem_of_getElem? (i := 1) rfl)
  have hfl7 := hts (.fieldLink RX5 7 "TraderRightsModel" "groupsOf" "[I") (List.mem_of_getElem? (i := 2) rfl)
  have hinX5 : ∀ w ∈ u_ws RX5 TX5 25, w ∈ wsX5_group := fun w h => List.mem_cons_of_mem _ (List.mem_append_right _ h)
  subst hsz
  have hD := hD0.self (sz := s.heap.size)
  generalize hAe : va_A (wM am cI cZ th z v f) s.heap.size = A at hD ⊢
  have hA : ∀ q : Nat, s.heap.size ≤ q → A q := fun q h => by rw [← hAe]; exact Or.inr h
  have hS : va_S A s.heap s.heap [] := va_S.rf
  have hl := lv_entry ([.ref (am 0), .int t, .int u]) (n := 3) (Nat.le_of_ble_eq_true rfl)
  rw [lg_entry_eq]
  generalize (lg_sl ([.ref (am 0), .int t, .int u]) ++ List.replicate (3 - (lg_sl ([.ref (am 0), .int t, .int u])).length) Slot.unset).toArray = ls at hl ⊢
  have hl : lv_has ls 3 [(0, .ref (am 0)), (1, .int t), (2, .int u)] := hl
  generalize hF : F_X5_group z v f t u = R9
  generalize hQ9 : MQ below _ _ s 0 0 A = Q9
  rw [F_X5_group] at hF
  refine lv_aload_n hx hb dX5_group_0 rfl (lv_at hl 0 rfl) ?_
  refine lv_aload_n hx hb dX5_group_1 rfl (lv_at hl 0 rfl) ?_
  refine lv_iload_n hx hb dX5_group_2 rfl (lv_at hl 1 rfl) ?_
  refine lv_iload_n hx hb dX5_group_3 rfl (lv_at hl 2 rfl) ?_
  refine vp_callSi (W.runV (As := [.int t, .int u]) (rest := [.ref (am 0)]) ⟨hx, hb, hml, hown, hts⟩ (c_X5_areTwo l dC dI am cI cZ th z v f t u hok) (cwV 2 hts gX5_group_X5_areTwo rfl rfl rfl (by decide +kernel) ⟨Nat.le_of_ble_eq_true rfl, Nat.le_of_ble_eq_true rfl⟩) (preM (ci := 5) (q0 := 0) hP hK hN rfl rfl rfl) rfl rfl hl.1 rfl (lv_room (Nat.le_of_ble_eq_true rfl)) dX5_group_4 ⟨Nat.zero_le _, Nat.zero_le _⟩) (fun r1 h9 => ?_)
  have hr1 : r1 = F_X5_areTwo z v f t u := h9
  try rw [← hr1] at hF
  refine lv_if_eq (tgt := 14) hx hb dX5_group_7 (by decide) (fun c2 => ?_) (fun c2 => ?_)
  · rw [if_pos c2] at hF
    have c2f : F_X5_areTwo z v f t u = 0 := by rw [← hr1]; exact c2
    refine lv_iconst (v := 1) hx hb dX5_group_14 (by decide) ?_
    refine va_put (D := (dC, dI)) (ci := 5) (v := .int 1) (ty := .int) (C := RX5) (T := TX5) (N := 25) hx hb hts hinX5 tyX5 tyX5_ok nmX5 hown hK hP hD hS 0 rfl rfl 0 (by decide) hfl66 (fun _ h9 => h9) rfl (by decide +kernel) rfl rfl (Nat.le_of_ble_eq_true rfl) dX5_group_15 (fun H locs hP hD hS => ?_)
    have hP : va_P (dC, dI) vwCl (wM am cI cZ 1 z v f) H := hP
    have hD : va_D A (wM am cI cZ 1 z v f) := hD
    refine lv_aload_n hx hb dX5_group_18 rfl (lv_at hl 0 rfl) ?_
    refine va_get (D := (dC, dI)) (ci := 5) (v := .int 1) (C := RX5) (T := TX5) (N := 25) hx hb hts hinX5 hown hK hP 0 rfl rfl 0 (by decide) hfl66 (fun _ h9 => h9) rfl dX5_group_19 ?_
    refine lv_if_gt (tgt := 66) hx hb dX5_group_22 (by decide) (fun _ => ?_) (fun c9 => absurd c9 (by decide))
    refine lv_iconst (v := 0) hx hb dX5_group_66 (by decide) ?_
    subst hF
    subst hQ9
    exact W.iret (v := 0) hx hb hr (fun t9 ht hW => ⟨⟨0, (), rfl, rfl, by show va_P (dC, dI) vwCl _ t9.heap; rw [ht]; exact hP⟩, hS.F ht⟩) hS.2.2 dX5_group_67
  · rw [if_neg c2] at hF
    have c2f : ¬ F_X5_areTwo z v f t u = 0 := by rw [← hr1]; exact c2
    refine lv_iconst (v := 0) hx hb dX5_group_10 (by decide) ?_
    refine lv_goto (tgt := 15) hx hb dX5_group_11 (by decide) ?_
    refine va_put (D := (dC, dI)) (ci := 5) (v := .int 0) (ty := .int) (C := RX5) (T := TX5) (N := 25) hx hb hts hinX5 tyX5 tyX5_ok nmX5 hown hK hP hD hS 0 rfl rfl 0 (by decide) hfl66 (fun _ h9 => h9) rfl (by decide +kernel) rfl rfl (Nat.le_of_ble_eq_true rfl) dX5_group_15 (fun H locs hP hD hS => ?_)
    have hP : va_P (dC, dI) vwCl (wM am cI cZ 0 z v f) H := hP
    have hD : va_D A (wM am cI cZ 0 z v f) := hD
    refine lv_aload_n hx hb dX5_group_18 rfl (lv_at hl 0 rfl) ?_
    refine va_get (D := (dC, dI)) (ci := 5) (v := .int 0) (C := RX5) (T := TX5) (N := 25) hx hb hts hinX5 hown hK hP 0 rfl rfl 0 (by decide) hfl66 (fun _ h9 => h9) rfl dX5_group_19 ?_
    refine lv_if_gt (tgt := 66) hx hb dX5_group_22 (by decide) (fun c9 => absurd c9 (by decide)) (fun _ => ?_)
    refine lv_aload_n hx hb dX5_group_25 rfl (lv_at hl 0 rfl) ?_
    refine va_get (D := (dC, dI)) (ci := 5) (v := .ref (am 1)) (C := RX5) (T := TX5) (N := 25) hx hb hts hinX5 hown hK hP 0 rfl rfl 6 (by decide) hfl7 (fun _ h9 => h9) rfl dX5_group_26 ?_
    refine lv_iload_n hx hb dX5_group_29 rfl (lv_at hl 1 rfl) ?_
    refine va_iald hx hb hK hP 1 0 rfl rfl (in_twoM hok c2f) dX5_group_30 ?_
    refine lv_iload_n hx hb dX5_group_31 rfl (lv_at hl 2 rfl) ?_
    refine lv_ishr hx hb dX5_group_32 ?_
    refine lv_iconst (v := 1) hx hb dX5_group_33 (by decide) ?_
    refine lv_iand hx hb dX5_group_34 ?_
    refine lv_iconst (v := 1) hx hb dX5_group_35 (by decide) ?_
    refine lv_icmp_eq (tgt := 66) hx hb dX5_group_36 (by decide) (fun c3 => ?_) (fun c3 => ?_)
    · rw [if_pos c3] at hF
      refine lv_iconst (v := 0) hx hb dX5_group_66 (by decide) ?_
      subst hF
      subst hQ9
      exact W.iret (v := 0) hx hb hr (fun t9 ht hW => ⟨⟨0, (), rfl, rfl, by show va_P (dC, dI) vwCl _ t9.heap; rw [ht]; exact hP⟩, hS.F ht⟩) hS.2.2 dX5_group_67
    · rw [if_neg c3] at hF
      refine lv_aload_n hx hb dX5_group_39 rfl (lv_at hl 0 rfl) ?_
      refine va_get (D := (dC, dI)) (ci := 5) (v := .ref (am 1)) (C := RX5) (T := TX5) (N := 25) hx hb hts hinX5 hown hK hP 0 rfl rfl 6 (by decide) hfl7 (fun _ h9 => h9) rfl dX5_group_40 ?_
      refine lv_iload_n hx hb dX5_group_43 rfl (lv_at hl 1 rfl) ?_
      refine va_iald hx hb hK hP 1 0 rfl rfl (in_twoM hok c2f) dX5_group_44 ?_
      refine vp_callSi (W.runS (As := [.int (f 0 t.toNatClampNeg)]) (rest := []) ⟨hx, hb, hml, hown, hts⟩ (c_X5_bits l (f 0 t.toNatClampNeg)) (cwS 1 hts gX5_group_X5_bits rfl rfl rfl (by decide +kernel) ⟨Nat.le_of_ble_eq_true rfl, Nat.le_of_ble_eq_true rfl⟩) preT rfl rfl hl.1 rfl (lv_room (Nat.le_of_ble_eq_true rfl)) dX5_group_45 ⟨Nat.zero_le _, Nat.zero_le _⟩) (fun r4 h9 => ?_)
      have hr4 : r4 = F_X5_bits (f 0 t.toNatClampNeg) := h9
      try rw [← hr4] at hF
      refine lv_iconst (v := 4) hx hb dX5_group_48 (by decide) ?_
      refine lv_icmp_eq (tgt := 66) hx hb dX5_group_49 (by decide) (fun c5 => ?_) (fun c5 => ?_)
      · rw [if_pos c5] at hF
        refine lv_iconst (v := 0) hx hb dX5_group_66 (by decide) ?_
        subst hF
        subst hQ9
        exact W.iret (v := 0) hx hb hr (fun t9 ht hW => ⟨⟨0, (), rfl, rfl, by show va_P (dC, dI) vwCl _ t9.heap; rw [ht]; exact hP⟩, hS.F ht⟩) hS.2.2 dX5_group_67
      · rw [if_neg c5] at hF
        refine lv_aload_n hx hb dX5_group_52 rfl (lv_at hl 0 rfl) ?_
        refine lv_iload_n hx hb dX5_group_53 rfl (lv_at hl 2 rfl) ?_
        refine lv_iconst (v := (-1)) hx hb dX5_group_54 (by decide) ?_
        refine vp_callSi (W.runV (As := [.int u, .int (-1)]) (rest := []) ⟨hx, hb, hml, hown, hts⟩ (c_X5_reached l dC dI am cI cZ 0 z v f u (-1) hok) (cwV 2 hts gX5_group_X5_reached rfl rfl rfl (by decide +kernel) ⟨Nat.le_of_ble_eq_true rfl, Nat.le_of_ble_eq_true rfl⟩) (preM (ci := 5) (q0 := 0) hP hK hN rfl rfl rfl) rfl rfl hl.1 rfl (lv_room (Nat.le_of_ble_eq_true rfl)) dX5_group_55 ⟨Nat.zero_le _, Nat.zero_le _⟩) (fun r6 h9 => ?_)
        have hr6 : r6 = F_X5_reached z v f u (-1) := h9
        try rw [← hr6] at hF
        refine lv_iload_n hx hb dX5_group_58 rfl (lv_at hl 1 rfl) ?_
        refine lv_ishr hx hb dX5_group_59 ?_
        refine lv_iconst (v := 1) hx hb dX5_group_60 (by decide) ?_
        refine lv_iand hx hb dX5_group_61 ?_
        refine lv_iconst (v := 1) hx hb dX5_group_62 (by decide) ?_
        refine lv_icmp_ne (tgt := 68) hx hb dX5_group_63 (by decide) (fun c7 => ?_) (fun c7 => ?_)
        · rw [if_neg c7] at hF
          refine lv_aload_n hx hb dX5_group_68 rfl (lv_at hl 0 rfl) ?_
          refine va_get (D := (dC, dI)) (ci := 5) (v := .ref (am 1)) (C := RX5) (T := TX5) (N := 25) hx hb hts hinX5 hown hK hP 0 rfl rfl 6 (by decide) hfl7 (fun _ h9 => h9) rfl dX5_group_69 ?_
          refine lv_iload_n hx hb dX5_group_72 rfl (lv_at hl 1 rfl) ?_
          refine lv_dup2_11 hx hb dX5_group_73 rfl rfl ?_
          refine va_iald hx hb hK hP 1 0 rfl rfl (in_twoM hok c2f) dX5_group_74 ?_
          refine lv_iconst (v := 1) hx hb dX5_group_75 (by decide) ?_
          refine lv_iload_n hx hb dX5_group_76 rfl (lv_at hl 2 rfl) ?_
          refine lv_ishl hx hb dX5_group_77 ?_
          refine lv_ior hx hb dX5_group_78 ?_
          refine va_iast hx hb hK hP hD hS 1 0 rfl rfl (in_twoM hok c2f) dX5_group_79 (fun H locs hP hD hS => ?_)
          have hP : va_P (dC, dI) vwCl (wM am cI cZ 0 z v (uu f 0 (upd (f 0) t.toNatClampNeg ((f 0 t.toNatClampNeg) ||| (1 <<< (u &&& 31)))))) H := hP
          have hD : va_D A (wM am cI cZ 0 z v (uu f 0 (upd (f 0) t.toNatClampNeg ((f 0 t.toNatClampNeg) ||| (1 <<< (u &&& 31)))))) := hD
          refine lv_iconst (v := 1) hx hb dX5_group_80 (by decide) ?_
          subst hF
          subst hQ9
          exact W.iret (v := 1) hx hb hr (fun t9 ht hW => ⟨⟨1, (), rfl, rfl, by show va_P (dC, dI) vwCl _ t9.heap; rw [ht]; exact hP⟩, hS.F ht⟩) hS.2.2 dX5_group_81
        · rw [if_pos c7] at hF
          refine lv_iconst (v := 0) hx hb dX5_group_66 (by decide) ?_
          subst hF
          subst hQ9
          exact W.iret (v := 0) hx hb hr (fun t9 ht hW => ⟨⟨0, (), rfl, rfl, by show va_P (dC, dI) vwCl _ t9.heap; rw [ht]; exact hP⟩, hS.F ht⟩) hS.2.2 dX5_group_67
