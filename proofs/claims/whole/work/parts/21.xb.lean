def F_X4_areTwoTraders (z : Nat → Nat) (v : Nat → Int32) (f : Nat → Nat → Int32) (t u : Int32) : Int32 :=
  if F_X4_isTrader z v f t = 0 then
    0
  else
    if F_X4_isTrader z v f u = 0 then
      0
    else
      if t = u then
        0
      else
        1
set_option maxHeartbeats 4000000 in
set_option maxRecDepth 100000 in
theorem c_X4_areTwoTraders (l : Launch) (dC : Nat → ClassId) (dI : Nat → Nat → Nat) (ad : Nat → Nat) (cI cZ : ClassId) (z : Nat → Nat) (v : Nat → Int32) (f : Nat → Nat → Int32) (t u : Int32) (hok : okX z v f) : Met l yX4_areTwoTraders wsX4_areTwoTraders ({ frames := 1, cells := 0, slots := 0, locals := 21 }) (va_Pc [.ref (ad 0), .int t, .int u] (kX dC dI ad cI cZ z v f)) (vp_Si (fun r => r = F_X4_areTwoTraders z v f t u)) 0 0 (fun _ => False) := by
  refine Met.ofW (cc := cX4_areTwoTraders) (maxL := 3) (ret := (some .boolean)) (by decide) rfl ?_
  intro p e s m args below meth c s₁ B hml hv
  obtain ⟨rfl, hP, hK, hN⟩ := hv
  have hx := B.exec
  have hb := B.bytes
  have hr := B.returns
  have hts := atoms_spec (ws := wsX4_areTwoTraders) B.pre
  have hown : s.vm.findClass RX4 = some m.cls := findClass_of_methodNamed B.named
  have hlocks := B.notSynchronized
  have hok9 := hok
  obtain ⟨hz0, hz1, hz2, hz3, hz4, hbz, hbs⟩ := hok9
  have hl := lv_entry ([.ref (ad 0), .int t, .int u]) (n := 3) (Nat.le_of_ble_eq_true rfl)
  rw [lg_entry_eq]
  generalize (lg_sl ([.ref (ad 0), .int t, .int u]) ++ List.replicate (3 - (lg_sl ([.ref (ad 0), .int t, .int u])).length) Slot.unset).toArray = ls at hl ⊢
  have hl : lv_has ls 3 [(0, .ref (ad 0)), (1, .int t), (2, .int u)] := hl
  generalize hF : F_X4_areTwoTraders z v f t u = R9
  generalize hQ9 : MQ below (vp_Si (fun r => r = R9)) _ s 0 0 (fun _ => False) = Q9
  rw [F_X4_areTwoTraders] at hF
  refine lv_aload_n hx hb dX4_areTwoTraders_0 rfl (lv_at hl 0 rfl) ?_
  refine lv_iload_n hx hb dX4_areTwoTraders_1 rfl (lv_at hl 1 rfl) ?_
  refine vp_callSi (W.runV (As := [.int t]) (rest := []) ⟨hx, hb, hml, hown, hts⟩ (c_X4_isTrader l dC dI ad cI cZ z v f t hok) (cwV 1 hts gX4_areTwoTraders_X4_isTrader rfl rfl rfl (by decide +kernel) ⟨Nat.le_of_ble_eq_true rfl, Nat.le_of_ble_eq_true rfl⟩) (preX (ci := 4) (q0 := 0) hP hK hN rfl rfl rfl) rfl rfl hl.1 rfl (lv_room (Nat.le_of_ble_eq_true rfl)) dX4_areTwoTraders_2 ⟨Nat.zero_le _, Nat.zero_le _⟩) (fun r1 h9 => ?_)
  have hr1 : r1 = F_X4_isTrader z v f t := h9
  try rw [← hr1] at hF
  refine lv_if_eq (tgt := 25) hx hb dX4_areTwoTraders_5 (by decide) (fun c2 => ?_) (fun c2 => ?_)
  · rw [if_pos c2] at hF
    have c2f : F_X4_isTrader z v f t = 0 := by rw [← hr1]; exact c2
    refine lv_iconst (v := 0) hx hb dX4_areTwoTraders_25 (by decide) ?_
    subst hQ9
    exact W.zret (ty := .boolean) hx hb hr rfl (fun t ht hW => ⟨_, rfl, hF, ht⟩) (fun q h => by cases h) dX4_areTwoTraders_26
  · rw [if_neg c2] at hF
    have c2f : ¬ F_X4_isTrader z v f t = 0 := by rw [← hr1]; exact c2
    refine lv_aload_n hx hb dX4_areTwoTraders_8 rfl (lv_at hl 0 rfl) ?_
    refine lv_iload_n hx hb dX4_areTwoTraders_9 rfl (lv_at hl 2 rfl) ?_
    refine vp_callSi (W.runV (As := [.int u]) (rest := []) ⟨hx, hb, hml, hown, hts⟩ (c_X4_isTrader l dC dI ad cI cZ z v f u hok) (cwV 1 hts gX4_areTwoTraders_X4_isTrader rfl rfl rfl (by decide +kernel) ⟨Nat.le_of_ble_eq_true rfl, Nat.le_of_ble_eq_true rfl⟩) (preX (ci := 4) (q0 := 0) hP hK hN rfl rfl rfl) rfl rfl hl.1 rfl (lv_room (Nat.le_of_ble_eq_true rfl)) dX4_areTwoTraders_10 ⟨Nat.zero_le _, Nat.zero_le _⟩) (fun r3 h9 => ?_)
    have hr3 : r3 = F_X4_isTrader z v f u := h9
    try rw [← hr3] at hF
    refine lv_if_eq (tgt := 25) hx hb dX4_areTwoTraders_13 (by decide) (fun c4 => ?_) (fun c4 => ?_)
    · rw [if_pos c4] at hF
      have c4f : F_X4_isTrader z v f u = 0 := by rw [← hr3]; exact c4
      refine lv_iconst (v := 0) hx hb dX4_areTwoTraders_25 (by decide) ?_
      subst hQ9
      exact W.zret (ty := .boolean) hx hb hr rfl (fun t ht hW => ⟨_, rfl, hF, ht⟩) (fun q h => by cases h) dX4_areTwoTraders_26
    · rw [if_neg c4] at hF
      have c4f : ¬ F_X4_isTrader z v f u = 0 := by rw [← hr3]; exact c4
      refine lv_iload_n hx hb dX4_areTwoTraders_16 rfl (lv_at hl 1 rfl) ?_
      refine lv_iload_n hx hb dX4_areTwoTraders_17 rfl (lv_at hl 2 rfl) ?_
      refine lv_icmp_eq (tgt := 25) hx hb dX4_areTwoTraders_18 (by decide) (fun c5 => ?_) (fun c5 => ?_)
      · rw [if_pos c5] at hF
        refine lv_iconst (v := 0) hx hb dX4_areTwoTraders_25 (by decide) ?_
        subst hQ9
        exact W.zret (ty := .boolean) hx hb hr rfl (fun t ht hW => ⟨_, rfl, hF, ht⟩) (fun q h => by cases h) dX4_areTwoTraders_26
      · rw [if_neg c5] at hF
        refine lv_iconst (v := 1) hx hb dX4_areTwoTraders_21 (by decide) ?_
        refine lv_goto (tgt := 26) hx hb dX4_areTwoTraders_22 (by decide) ?_
        subst hQ9
        exact W.zret (ty := .boolean) hx hb hr rfl (fun t ht hW => ⟨_, rfl, hF, ht⟩) (fun q h => by cases h) dX4_areTwoTraders_26
theorem in_twoX {z : Nat → Nat} {v : Nat → Int32} {f : Nat → Nat → Int32} {t u : Int32} (hok : okX z v f) (h : ¬ F_X4_areTwoTraders z v f t u = 0) : vp_in t 12 := by
  rw [F_X4_areTwoTraders] at h
  split at h
  · exact absurd rfl h
  · exact in_isTX hok (by assumption)
theorem in_towX {z : Nat → Nat} {v : Nat → Int32} {f : Nat → Nat → Int32} {t u : Int32} (hok : okX z v f) (h : ¬ F_X4_areTwoTraders z v f t u = 0) : vp_in u 12 := by
  rw [F_X4_areTwoTraders] at h
  split at h
  · exact absurd rfl h
  · split at h
    · exact absurd rfl h
    · exact in_isTX hok (by assumption)
def F_X4_isEnded (z : Nat → Nat) (v : Nat → Int32) (f : Nat → Nat → Int32) (t day : Int32) : Int32 :=
  if f 4 t.toNatClampNeg = (-1) then
    0
  else
    if day < f 4 t.toNatClampNeg then
      0
    else
      1
set_option maxHeartbeats 4000000 in
set_option maxRecDepth 100000 in
theorem c_X4_isEnded (l : Launch) (dC : Nat → ClassId) (dI : Nat → Nat → Nat) (ad : Nat → Nat) (cI cZ : ClassId) (z : Nat → Nat) (v : Nat → Int32) (f : Nat → Nat → Int32) (t day : Int32) (hok : okX z v f) (ht : vp_in t 12) : Met l yX4_isEnded wsX4_isEnded ({ frames := 0, cells := 0, slots := 0, locals := 0 }) (va_Pc [.ref (ad 0), .int t, .int day] (kX dC dI ad cI cZ z v f)) (vp_Si (fun r => r = F_X4_isEnded z v f t day)) 0 0 (fun _ => False) := by
  refine Met.ofW (cc := cX4_isEnded) (maxL := 3) (ret := (some .boolean)) (by decide) rfl ?_
  intro p e s m args below meth c s₁ B hml hv
  obtain ⟨rfl, hP, hK, hN⟩ := hv
  have hx := B.exec
  have hb := B.bytes
  have hr := B.returns
  have hts := atoms_spec (ws := wsX4_isEnded) B.pre
  have hown : s.vm.findClass RX4 = some m.cls := findClass_of_methodNamed B.named
  have hlocks := B.notSynchronized
  have hok9 := hok
  obtain ⟨hz0, hz1, hz2, hz3, hz4, hbz, hbs⟩ := hok9
  have hfl29 := hts (.fieldLink RX4 29 "TraderRights" "endDays" "[I") (List.mem_of_getElem? (i := 1) rfl)
  have hinX4 : ∀ w ∈ u_ws RX4 TX4 11, w ∈ wsX4_isEnded := fun w h => List.mem_cons_of_mem _ (List.mem_append_right _ h)
  have hl := lv_entry ([.ref (ad 0), .int t, .int day]) (n := 3) (Nat.le_of_ble_eq_true rfl)
  rw [lg_entry_eq]
  generalize (lg_sl ([.ref (ad 0), .int t, .int day]) ++ List.replicate (3 - (lg_sl ([.ref (ad 0), .int t, .int day])).length) Slot.unset).toArray = ls at hl ⊢
  have hl : lv_has ls 3 [(0, .ref (ad 0)), (1, .int t), (2, .int day)] := hl
  generalize hF : F_X4_isEnded z v f t day = R9
  generalize hQ9 : MQ below (vp_Si (fun r => r = R9)) _ s 0 0 (fun _ => False) = Q9
  rw [F_X4_isEnded] at hF
  refine lv_aload_n hx hb dX4_isEnded_0 rfl (lv_at hl 0 rfl) ?_
  refine va_get (D := (dC, dI)) (ci := 4) (v := .ref (ad 5)) (C := RX4) (T := TX4) (N := 11) hx hb hts hinX4 hown hK hP 0 rfl rfl 6 (by decide) hfl29 (fun _ h9 => h9) rfl dX4_isEnded_1 ?_
  refine lv_iload_n hx hb dX4_isEnded_4 rfl (lv_at hl 1 rfl) ?_
  refine va_iald hx hb hK hP 5 0 rfl rfl ht dX4_isEnded_5 ?_
  refine lv_iconst (v := (-1)) hx hb dX4_isEnded_6 (by decide) ?_
  refine lv_icmp_eq (tgt := 24) hx hb dX4_isEnded_7 (by decide) (fun c1 => ?_) (fun c1 => ?_)
  · rw [if_pos c1] at hF
    refine lv_iconst (v := 0) hx hb dX4_isEnded_24 (by decide) ?_
    subst hQ9
    exact W.zret (ty := .boolean) hx hb hr rfl (fun t ht hW => ⟨_, rfl, hF, ht⟩) (fun q h => by cases h) dX4_isEnded_25
  · rw [if_neg c1] at hF
    refine lv_aload_n hx hb dX4_isEnded_10 rfl (lv_at hl 0 rfl) ?_
    refine va_get (D := (dC, dI)) (ci := 4) (v := .ref (ad 5)) (C := RX4) (T := TX4) (N := 11) hx hb hts hinX4 hown hK hP 0 rfl rfl 6 (by decide) hfl29 (fun _ h9 => h9) rfl dX4_isEnded_11 ?_
    refine lv_iload_n hx hb dX4_isEnded_14 rfl (lv_at hl 1 rfl) ?_
    refine va_iald hx hb hK hP 5 0 rfl rfl ht dX4_isEnded_15 ?_
    refine lv_iload_n hx hb dX4_isEnded_16 rfl (lv_at hl 2 rfl) ?_
    refine lv_icmp_gt (tgt := 24) hx hb dX4_isEnded_17 (by decide) (fun c2 => ?_) (fun c2 => ?_)
    · rw [if_pos c2] at hF
      refine lv_iconst (v := 0) hx hb dX4_isEnded_24 (by decide) ?_
      subst hQ9
      exact W.zret (ty := .boolean) hx hb hr rfl (fun t ht hW => ⟨_, rfl, hF, ht⟩) (fun q h => by cases h) dX4_isEnded_25
    · rw [if_neg c2] at hF
      refine lv_iconst (v := 1) hx hb dX4_isEnded_20 (by decide) ?_
      refine lv_goto (tgt := 25) hx hb dX4_isEnded_21 (by decide) ?_
      subst hQ9
      exact W.zret (ty := .boolean) hx hb hr rfl (fun t ht hW => ⟨_, rfl, hF, ht⟩) (fun q h => by cases h) dX4_isEnded_25
def F_X4_isForbidden (z : Nat → Nat) (v : Nat → Int32) (f : Nat → Nat → Int32) (t a : Int32) : Int32 :=
  F_X4_holds (f 1 t.toNatClampNeg) a
set_option maxHeartbeats 4000000 in
set_option maxRecDepth 100000 in
theorem c_X4_isForbidden (l : Launch) (dC : Nat → ClassId) (dI : Nat → Nat → Nat) (ad : Nat → Nat) (cI cZ : ClassId) (z : Nat → Nat) (v : Nat → Int32) (f : Nat → Nat → Int32) (t a : Int32) (hok : okX z v f) (ht : vp_in t 12) : Met l yX4_isForbidden wsX4_isForbidden ({ frames := 1, cells := 0, slots := 0, locals := 21 }) (va_Pc [.ref (ad 0), .int t, .int a] (kX dC dI ad cI cZ z v f)) (vp_Si (fun r => r = F_X4_isForbidden z v f t a)) 0 0 (fun _ => False) := by
  refine Met.ofW (cc := cX4_isForbidden) (maxL := 3) (ret := (some .boolean)) (by decide) rfl ?_
  intro p e s m args below meth c s₁ B hml hv
  obtain ⟨rfl, hP, hK, hN⟩ := hv
  have hx := B.exec
  have hb := B.bytes
  have hr := B.returns
  have hts := atoms_spec (ws := wsX4_isForbidden) B.pre
  have hown : s.vm.findClass RX4 = some m.cls := findClass_of_methodNamed B.named
  have hlocks := B.notSynchronized
  have hok9 := hok
  obtain ⟨hz0, hz1, hz2, hz3, hz4, hbz, hbs⟩ := hok9
  have hfl20 := hts (.fieldLink RX4 20 "TraderRights" "forbiddenActs" "[I") (List.mem_of_getElem? (i := 1) rfl)
  have hinX4 : ∀ w ∈ u_ws RX4 TX4 11, w ∈ wsX4_isForbidden := fun w h => List.mem_cons_of_mem _ (List.mem_append_right _ h)
  have hl := lv_entry ([.ref (ad 0), .int t, .int a]) (n := 3) (Nat.le_of_ble_eq_true rfl)
  rw [lg_entry_eq]
  generalize (lg_sl ([.ref (ad 0), .int t, .int a]) ++ List.replicate (3 - (lg_sl ([.ref (ad 0), .int t, .int a])).length) Slot.unset).toArray = ls at hl ⊢
  have hl : lv_has ls 3 [(0, .ref (ad 0)), (1, .int t), (2, .int a)] := hl
  generalize hF : F_X4_isForbidden z v f t a = R9
  generalize hQ9 : MQ below (vp_Si (fun r => r = R9)) _ s 0 0 (fun _ => False) = Q9
  rw [F_X4_isForbidden] at hF
  refine lv_aload_n hx hb dX4_isForbidden_0 rfl (lv_at hl 0 rfl) ?_
  refine va_get (D := (dC, dI)) (ci := 4) (v := .ref (ad 2)) (C := RX4) (T := TX4) (N := 11) hx hb hts hinX4 hown hK hP 0 rfl rfl 3 (by decide) hfl20 (fun _ h9 => h9) rfl dX4_isForbidden_1 ?_
  refine lv_iload_n hx hb dX4_isForbidden_4 rfl (lv_at hl 1 rfl) ?_
  refine va_iald hx hb hK hP 2 0 rfl rfl ht dX4_isForbidden_5 ?_
  refine lv_iload_n hx hb dX4_isForbidden_6 rfl (lv_at hl 2 rfl) ?_
  refine vp_callSi (W.runS (As := [.int (f 1 t.toNatClampNeg), .int a]) (rest := []) ⟨hx, hb, hml, hown, hts⟩ (c_X4_holds l (f 1 t.toNatClampNeg) a) (cwS 2 hts gX4_isForbidden_X4_holds rfl rfl rfl (by decide +kernel) ⟨Nat.le_of_ble_eq_true rfl, Nat.le_of_ble_eq_true rfl⟩) preT rfl rfl hl.1 rfl (lv_room (Nat.le_of_ble_eq_true rfl)) dX4_isForbidden_7 ⟨Nat.zero_le _, Nat.zero_le _⟩) (fun r1 h9 => ?_)
  have hr1 : r1 = F_X4_holds (f 1 t.toNatClampNeg) a := h9
  try rw [← hr1] at hF
  subst hQ9
  exact W.zret (ty := .boolean) hx hb hr (by rw [hr1]; exact (zB_holds _ _)) (fun t ht hW => ⟨_, rfl, hF, ht⟩) (fun q h => by cases h) dX4_isForbidden_10
def F_X4_needsTwo (z : Nat → Nat) (v : Nat → Int32) (f : Nat → Nat → Int32) (a : Int32) : Int32 :=
  F_X4_holds (v 0) a
set_option maxHeartbeats 4000000 in
set_option maxRecDepth 100000 in
theorem c_X4_needsTwo (l : Launch) (dC : Nat → ClassId) (dI : Nat → Nat → Nat) (ad : Nat → Nat) (cI cZ : ClassId) (z : Nat → Nat) (v : Nat → Int32) (f : Nat → Nat → Int32) (a : Int32) (hok : okX z v f) : Met l yX4_needsTwo wsX4_needsTwo ({ frames := 1, cells := 0, slots := 0, locals := 21 }) (va_Pc [.ref (ad 0), .int a] (kX dC dI ad cI cZ z v f)) (vp_Si (fun r => r = F_X4_needsTwo z v f a)) 0 0 (fun _ => False) := by
  refine Met.ofW (cc := cX4_needsTwo) (maxL := 2) (ret := (some .boolean)) (by decide) rfl ?_
  intro p e s m args below meth c s₁ B hml hv
  obtain ⟨rfl, hP, hK, hN⟩ := hv
  have hx := B.exec
  have hb := B.bytes
  have hr := B.returns
  have hts := atoms_spec (ws := wsX4_needsTwo) B.pre
  have hown : s.vm.findClass RX4 = some m.cls := findClass_of_methodNamed B.named
  have hlocks := B.notSynchronized
  have hok9 := hok
  obtain ⟨hz0, hz1, hz2, hz3, hz4, hbz, hbs⟩ := hok9
  have hfl13 := hts (.fieldLink RX4 13 "TraderRights" "actsOfTwo" "I") (List.mem_of_getElem? (i := 1) rfl)
  have hinX4 : ∀ w ∈ u_ws RX4 TX4 11, w ∈ wsX4_needsTwo := fun w h => List.mem_cons_of_mem _ (List.mem_append_right _ h)
  have hl := lv_entry ([.ref (ad 0), .int a]) (n := 2) (Nat.le_of_ble_eq_true rfl)
  rw [lg_entry_eq]
  generalize (lg_sl ([.ref (ad 0), .int a]) ++ List.replicate (2 - (lg_sl ([.ref (ad 0), .int a])).length) Slot.unset).toArray = ls at hl ⊢
  have hl : lv_has ls 2 [(0, .ref (ad 0)), (1, .int a)] := hl
  generalize hF : F_X4_needsTwo z v f a = R9
  generalize hQ9 : MQ below (vp_Si (fun r => r = R9)) _ s 0 0 (fun _ => False) = Q9
  rw [F_X4_needsTwo] at hF
  refine lv_aload_n hx hb dX4_needsTwo_0 rfl (lv_at hl 0 rfl) ?_
  refine va_get (D := (dC, dI)) (ci := 4) (v := .int (v 0)) (C := RX4) (T := TX4) (N := 11) hx hb hts hinX4 hown hK hP 0 rfl rfl 1 (by decide) hfl13 (fun _ h9 => h9) rfl dX4_needsTwo_1 ?_
  refine lv_iload_n hx hb dX4_needsTwo_4 rfl (lv_at hl 1 rfl) ?_
  refine vp_callSi (W.runS (As := [.int (v 0), .int a]) (rest := []) ⟨hx, hb, hml, hown, hts⟩ (c_X4_holds l (v 0) a) (cwS 2 hts gX4_needsTwo_X4_holds rfl rfl rfl (by decide +kernel) ⟨Nat.le_of_ble_eq_true rfl, Nat.le_of_ble_eq_true rfl⟩) preT rfl rfl hl.1 rfl (lv_room (Nat.le_of_ble_eq_true rfl)) dX4_needsTwo_5 ⟨Nat.zero_le _, Nat.zero_le _⟩) (fun r1 h9 => ?_)
  have hr1 : r1 = F_X4_holds (v 0) a := h9
  try rw [← hr1] at hF
  subst hQ9
  exact W.zret (ty := .boolean) hx hb hr (by rw [hr1]; exact (zB_holds _ _)) (fun t ht hW => ⟨_, rfl, hF, ht⟩) (fun q h => by cases h) dX4_needsTwo_8
def F_X4_everyTrader (z : Nat → Nat) (v : Nat → Int32) (f : Nat → Nat → Int32)  : Int32 :=
  (F_X4_bit (nI (z 0))) - 1
set_option maxHeartbeats 4000000 in
set_option maxRecDepth 100000 in
theorem c_X4_everyTrader (l : Launch) (dC : Nat → ClassId) (dI : Nat → Nat → Nat) (ad : Nat → Nat) (cI cZ : ClassId) (z : Nat → Nat) (v : Nat → Int32) (f : Nat → Nat → Int32) (hok : okX z v f) : Met l yX4_everyTrader wsX4_everyTrader ({ frames := 1, cells := 0, slots := 0, locals := 20 }) (va_Pc [.ref (ad 0)] (kX dC dI ad cI cZ z v f)) (vp_Si (fun r => r = F_X4_everyTrader z v f )) 0 0 (fun _ => False) := by
  refine Met.ofW (cc := cX4_everyTrader) (maxL := 1) (ret := (some .int)) (by decide) rfl ?_
  intro p e s m args below meth c s₁ B hml hv
  obtain ⟨rfl, hP, hK, hN⟩ := hv
  have hx := B.exec
  have hb := B.bytes
  have hr := B.returns
  have hts := atoms_spec (ws := wsX4_everyTrader) B.pre
  have hown : s.vm.findClass RX4 = some m.cls := findClass_of_methodNamed B.named
  have hlocks := B.notSynchronized
  have hok9 := hok
  obtain ⟨hz0, hz1, hz2, hz3, hz4, hbz, hbs⟩ := hok9
  have hfl7 := hts (.fieldLink RX4 7 "TraderRights" "traders" "I") (List.mem_of_getElem? (i := 1) rfl)
  have hinX4 : ∀ w ∈ u_ws RX4 TX4 11, w ∈ wsX4_everyTrader := fun w h => List.mem_cons_of_mem _ (List.mem_append_right _ h)
  have hl := lv_entry ([.ref (ad 0)]) (n := 1) (Nat.le_of_ble_eq_true rfl)
  rw [lg_entry_eq]
  generalize (lg_sl ([.ref (ad 0)]) ++ List.replicate (1 - (lg_sl ([.ref (ad 0)])).length) Slot.unset).toArray = ls at hl ⊢
  have hl : lv_has ls 1 [(0, .ref (ad 0))] := hl
  generalize hF : F_X4_everyTrader z v f  = R9
  generalize hQ9 : MQ below (vp_Si (fun r => r = R9)) _ s 0 0 (fun _ => False) = Q9
  rw [F_X4_everyTrader] at hF
  refine lv_aload_n hx hb dX4_everyTrader_0 rfl (lv_at hl 0 rfl) ?_
  refine va_get (D := (dC, dI)) (ci := 4) (v := .int (nI (z 0))) (C := RX4) (T := TX4) (N := 11) hx hb hts hinX4 hown hK hP 0 rfl rfl 0 (by decide) hfl7 (fun _ h9 => h9) rfl dX4_everyTrader_1 ?_
  refine vp_callSi (W.runS (As := [.int (nI (z 0))]) (rest := []) ⟨hx, hb, hml, hown, hts⟩ (c_X4_bit l (nI (z 0))) (cwS 1 hts gX4_everyTrader_X4_bit rfl rfl rfl (by decide +kernel) ⟨Nat.le_of_ble_eq_true rfl, Nat.le_of_ble_eq_true rfl⟩) preT rfl rfl hl.1 rfl (lv_room (Nat.le_of_ble_eq_true rfl)) dX4_everyTrader_4 ⟨Nat.zero_le _, Nat.zero_le _⟩) (fun r1 h9 => ?_)
  have hr1 : r1 = F_X4_bit (nI (z 0)) := h9
  try rw [← hr1] at hF
  refine lv_iconst (v := 1) hx hb dX4_everyTrader_7 (by decide) ?_
  refine lv_isub hx hb dX4_everyTrader_8 ?_
  subst hQ9
  exact W.iret hx hb hr (fun t ht hW => ⟨_, rfl, hF, ht⟩) (fun q h => by cases h) dX4_everyTrader_9
def F_X4_isInDeputyPair (z : Nat → Nat) (v : Nat → Int32) (f : Nat → Nat → Int32) (t : Int32) : Int32 :=
  if f 2 t.toNatClampNeg = (-1) then
    if f 3 t.toNatClampNeg = (-1) then
      0
    else
      1
  else
    1
set_option maxHeartbeats 4000000 in
set_option maxRecDepth 100000 in
theorem c_X4_isInDeputyPair (l : Launch) (dC : Nat → ClassId) (dI : Nat → Nat → Nat) (ad : Nat → Nat) (cI cZ : ClassId) (z : Nat → Nat) (v : Nat → Int32) (f : Nat → Nat → Int32) (t : Int32) (hok : okX z v f) (ht : vp_in t 12) : Met l yX4_isInDeputyPair wsX4_isInDeputyPair ({ frames := 0, cells := 0, slots := 0, locals := 0 }) (va_Pc [.ref (ad 0), .int t] (kX dC dI ad cI cZ z v f)) (vp_Si (fun r => r = F_X4_isInDeputyPair z v f t)) 0 0 (fun _ => False) := by
  refine Met.ofW (cc := cX4_isInDeputyPair) (maxL := 2) (ret := (some .boolean)) (by decide) rfl ?_
  intro p e s m args below meth c s₁ B hml hv
  obtain ⟨rfl, hP, hK, hN⟩ := hv
  have hx := B.exec
  have hb := B.bytes
  have hr := B.returns
  have hts := atoms_spec (ws := wsX4_isInDeputyPair) B.pre
  have hown : s.vm.findClass RX4 = some m.cls := findClass_of_methodNamed B.named
  have hlocks := B.notSynchronized
  have hok9 := hok
  obtain ⟨hz0, hz1, hz2, hz3, hz4, hbz, hbs⟩ := hok9
  have hfl23 := hts (.fieldLink RX4 23 "TraderRights" "deputies" "[I") (List.mem_of_getElem? (i := 1) rfl)
  have hfl26 := hts (.fieldLink RX4 26 "TraderRights" "principals" "[I") (List.mem_of_getElem? (i := 2) rfl)
  have hinX4 : ∀ w ∈ u_ws RX4 TX4 11, w ∈ wsX4_isInDeputyPair := fun w h => List.mem_cons_of_mem _ (List.mem_append_right _ h)
  have hl := lv_entry ([.ref (ad 0), .int t]) (n := 2) (Nat.le_of_ble_eq_true rfl)
  rw [lg_entry_eq]
  generalize (lg_sl ([.ref (ad 0), .int t]) ++ List.replicate (2 - (lg_sl ([.ref (ad 0), .int t])).length) Slot.unset).toArray = ls at hl ⊢
  have hl : lv_has ls 2 [(0, .ref (ad 0)), (1, .int t)] := hl
  generalize hF : F_X4_isInDeputyPair z v f t = R9
  generalize hQ9 : MQ below (vp_Si (fun r => r = R9)) _ s 0 0 (fun _ => False) = Q9
  rw [F_X4_isInDeputyPair] at hF
  refine lv_aload_n hx hb dX4_isInDeputyPair_0 rfl (lv_at hl 0 rfl) ?_
  refine va_get (D := (dC, dI)) (ci := 4) (v := .ref (ad 3)) (C := RX4) (T := TX4) (N := 11) hx hb hts hinX4 hown hK hP 0 rfl rfl 4 (by decide) hfl23 (fun _ h9 => h9) rfl dX4_isInDeputyPair_1 ?_
  refine lv_iload_n hx hb dX4_isInDeputyPair_4 rfl (lv_at hl 1 rfl) ?_
  refine va_iald hx hb hK hP 3 0 rfl rfl ht dX4_isInDeputyPair_5 ?_
  refine lv_iconst (v := (-1)) hx hb dX4_isInDeputyPair_6 (by decide) ?_
  refine lv_icmp_ne (tgt := 20) hx hb dX4_isInDeputyPair_7 (by decide) (fun c1 => ?_) (fun c1 => ?_)
  · rw [if_neg c1] at hF
    refine lv_iconst (v := 1) hx hb dX4_isInDeputyPair_20 (by decide) ?_
    refine lv_goto (tgt := 25) hx hb dX4_isInDeputyPair_21 (by decide) ?_
    subst hQ9
    exact W.zret (ty := .boolean) hx hb hr rfl (fun t ht hW => ⟨_, rfl, hF, ht⟩) (fun q h => by cases h) dX4_isInDeputyPair_25
  · rw [if_pos c1] at hF
    refine lv_aload_n hx hb dX4_isInDeputyPair_10 rfl (lv_at hl 0 rfl) ?_
    refine va_get (D := (dC, dI)) (ci := 4) (v := .ref (ad 4)) (C := RX4) (T := TX4) (N := 11) hx hb hts hinX4 hown hK hP 0 rfl rfl 5 (by decide) hfl26 (fun _ h9 => h9) rfl dX4_isInDeputyPair_11 ?_
    refine lv_iload_n hx hb dX4_isInDeputyPair_14 rfl (lv_at hl 1 rfl) ?_
    refine va_iald hx hb hK hP 4 0 rfl rfl ht dX4_isInDeputyPair_15 ?_
    refine lv_iconst (v := (-1)) hx hb dX4_isInDeputyPair_16 (by decide) ?_
    refine lv_icmp_eq (tgt := 24) hx hb dX4_isInDeputyPair_17 (by decide) (fun c2 => ?_) (fun c2 => ?_)
    · rw [if_pos c2] at hF
      refine lv_iconst (v := 0) hx hb dX4_isInDeputyPair_24 (by decide) ?_
      subst hQ9
      exact W.zret (ty := .boolean) hx hb hr rfl (fun t ht hW => ⟨_, rfl, hF, ht⟩) (fun q h => by cases h) dX4_isInDeputyPair_25
    · rw [if_neg c2] at hF
      refine lv_iconst (v := 1) hx hb dX4_isInDeputyPair_20 (by decide) ?_
      refine lv_goto (tgt := 25) hx hb dX4_isInDeputyPair_21 (by decide) ?_
      subst hQ9
      exact W.zret (ty := .boolean) hx hb hr rfl (fun t ht hW => ⟨_, rfl, hF, ht⟩) (fun q h => by cases h) dX4_isInDeputyPair_25
def F_X4_principalSet (z : Nat → Nat) (v : Nat → Int32) (f : Nat → Nat → Int32) (t : Int32) : Int32 :=
  if f 3 t.toNatClampNeg = (-1) then
    0
  else
    F_X4_bit (f 3 t.toNatClampNeg)
set_option maxHeartbeats 4000000 in
set_option maxRecDepth 100000 in
theorem c_X4_principalSet (l : Launch) (dC : Nat → ClassId) (dI : Nat → Nat → Nat) (ad : Nat → Nat) (cI cZ : ClassId) (z : Nat → Nat) (v : Nat → Int32) (f : Nat → Nat → Int32) (t : Int32) (hok : okX z v f) (ht : vp_in t 12) : Met l yX4_principalSet wsX4_principalSet ({ frames := 1, cells := 0, slots := 0, locals := 20 }) (va_Pc [.ref (ad 0), .int t] (kX dC dI ad cI cZ z v f)) (vp_Si (fun r => r = F_X4_principalSet z v f t)) 0 0 (fun _ => False) := by
  refine Met.ofW (cc := cX4_principalSet) (maxL := 2) (ret := (some .int)) (by decide) rfl ?_
  intro p e s m args below meth c s₁ B hml hv
  obtain ⟨rfl, hP, hK, hN⟩ := hv
  have hx := B.exec
  have hb := B.bytes
  have hr := B.returns
  have hts := atoms_spec (ws := wsX4_principalSet) B.pre
  have hown : s.vm.findClass RX4 = some m.cls := findClass_of_methodNamed B.named
  have hlocks := B.notSynchronized
  have hok9 := hok
  obtain ⟨hz0, hz1, hz2, hz3, hz4, hbz, hbs⟩ := hok9
  have hfl26 := hts (.fieldLink RX4 26 "TraderRights" "principals" "[I") (List.mem_of_getElem? (i := 1) rfl)
  have hinX4 : ∀ w ∈ u_ws RX4 TX4 11, w ∈ wsX4_principalSet := fun w h => List.mem_cons_of_mem _ (List.mem_append_right _ h)
  have hl := lv_entry ([.ref (ad 0), .int t]) (n := 2) (Nat.le_of_ble_eq_true rfl)
  rw [lg_entry_eq]
  generalize (lg_sl ([.ref (ad 0), .int t]) ++ List.replicate (2 - (lg_sl ([.ref (ad 0), .int t])).length) Slot.unset).toArray = ls at hl ⊢
  have hl : lv_has ls 2 [(0, .ref (ad 0)), (1, .int t)] := hl
  generalize hF : F_X4_principalSet z v f t = R9
  generalize hQ9 : MQ below (vp_Si (fun r => r = R9)) _ s 0 0 (fun _ => False) = Q9
  rw [F_X4_principalSet] at hF
  refine lv_aload_n hx hb dX4_principalSet_0 rfl (lv_at hl 0 rfl) ?_
  refine va_get (D := (dC, dI)) (ci := 4) (v := .ref (ad 4)) (C := RX4) (T := TX4) (N := 11) hx hb hts hinX4 hown hK hP 0 rfl rfl 5 (by decide) hfl26 (fun _ h9 => h9) rfl dX4_principalSet_1 ?_
  refine lv_iload_n hx hb dX4_principalSet_4 rfl (lv_at hl 1 rfl) ?_
  refine va_iald hx hb hK hP 4 0 rfl rfl ht dX4_principalSet_5 ?_
  refine lv_iconst (v := (-1)) hx hb dX4_principalSet_6 (by decide) ?_
  refine lv_icmp_ne (tgt := 14) hx hb dX4_principalSet_7 (by decide) (fun c1 => ?_) (fun c1 => ?_)
  · rw [if_neg c1] at hF
    refine lv_aload_n hx hb dX4_principalSet_14 rfl (lv_at hl 0 rfl) ?_
    refine va_get (D := (dC, dI)) (ci := 4) (v := .ref (ad 4)) (C := RX4) (T := TX4) (N := 11) hx hb hts hinX4 hown hK hP 0 rfl rfl 5 (by decide) hfl26 (fun _ h9 => h9) rfl dX4_principalSet_15 ?_
    refine lv_iload_n hx hb dX4_principalSet_18 rfl (lv_at hl 1 rfl) ?_
    refine va_iald hx hb hK hP 4 0 rfl rfl ht dX4_principalSet_19 ?_
    refine vp_callSi (W.runS (As := [.int (f 3 t.toNatClampNeg)]) (rest := []) ⟨hx, hb, hml, hown, hts⟩ (c_X4_bit l (f 3 t.toNatClampNeg)) (cwS 1 hts gX4_principalSet_X4_bit rfl rfl rfl (by decide +kernel) ⟨Nat.le_of_ble_eq_true rfl, Nat.le_of_ble_eq_true rfl⟩) preT rfl rfl hl.1 rfl (lv_room (Nat.le_of_ble_eq_true rfl)) dX4_principalSet_20 ⟨Nat.zero_le _, Nat.zero_le _⟩) (fun r2 h9 => ?_)
    have hr2 : r2 = F_X4_bit (f 3 t.toNatClampNeg) := h9
    try rw [← hr2] at hF
    subst hQ9
    exact W.iret hx hb hr (fun t ht hW => ⟨_, rfl, hF, ht⟩) (fun q h => by cases h) dX4_principalSet_23
  · rw [if_pos c1] at hF
    refine lv_iconst (v := 0) hx hb dX4_principalSet_10 (by decide) ?_
    refine lv_goto (tgt := 23) hx hb dX4_principalSet_11 (by decide) ?_
    subst hQ9
    exact W.iret hx hb hr (fun t ht hW => ⟨_, rfl, hF, ht⟩) (fun q h => by cases h) dX4_principalSet_23
def F_X4_aliveOn_L4 (z : Nat → Nat) (v : Nat → Int32) (f : Nat → Nat → Int32) (day : Int32)  : Nat → Int32 → Nat → Int32
  | 0, al, k => al
  | n4 + 1, al, k =>
    if z 0 ≤ k then
      al
    else
      if F_X4_isEnded z v f (nI k) day = 0 then
        if F_X3_isOn z v f (nI k) day = 0 then
          F_X4_aliveOn_L4 z v f day n4 (al ||| (F_X4_bit (nI k))) (k + 1)
        else
          F_X4_aliveOn_L4 z v f day n4 al (k + 1)
      else
        F_X4_aliveOn_L4 z v f day n4 al (k + 1)
def F_X4_aliveOn (z : Nat → Nat) (v : Nat → Int32) (f : Nat → Nat → Int32) (day : Int32) : Int32 :=
  (F_X4_aliveOn_L4 z v f day (z 0 + 1) 0 0)
set_option maxHeartbeats 4000000 in
set_option maxRecDepth 100000 in
theorem c_X4_aliveOn (l : Launch) (dC : Nat → ClassId) (dI : Nat → Nat → Nat) (ad : Nat → Nat) (cI cZ : ClassId) (z : Nat → Nat) (v : Nat → Int32) (f : Nat → Nat → Int32) (day : Int32) (hok : okX z v f) : Met l yX4_aliveOn wsX4_aliveOn ({ frames := 1, cells := 0, slots := 0, locals := 25 }) (va_Pc [.ref (ad 0), .int day] (kX dC dI ad cI cZ z v f)) (vp_Si (fun r => r = F_X4_aliveOn z v f day)) 0 0 (fun _ => False) := by
  refine Met.ofW (cc := cX4_aliveOn) (maxL := 4) (ret := (some .int)) (by decide) rfl ?_
  intro p e s m args below meth c s₁ B hml hv
  obtain ⟨rfl, hP, hK, hN⟩ := hv
  have hx := B.exec
  have hb := B.bytes
  have hr := B.returns
  have hts := atoms_spec (ws := wsX4_aliveOn) B.pre
  have hown : s.vm.findClass RX4 = some m.cls := findClass_of_methodNamed B.named
  have hlocks := B.notSynchronized
  have hok9 := hok
  obtain ⟨hz0, hz1, hz2, hz3, hz4, hbz, hbs⟩ := hok9
  have hfl55 := hts (.fieldLink RX4 55 "TraderRights" "suspensions" "LTraderRights$Suspensions;") (List.mem_of_getElem? (i := 2) rfl)
  have hfl7 := hts (.fieldLink RX4 7 "TraderRights" "traders" "I") (List.mem_of_getElem? (i := 1) rfl)
  have himX3_isOn := hts (.instanceMethod yX3_isOn) (List.mem_of_getElem? (i := 9) rfl)
  have hinX4 : ∀ w ∈ u_ws RX4 TX4 11, w ∈ wsX4_aliveOn := fun w h => List.mem_cons_of_mem _ (List.mem_append_left _ (List.mem_append_right _ h))
  have hiniX3 := hts (.initialized RX3) (List.mem_of_getElem? (i := 10) rfl)
  have hnw153 := hN (.methodLinkNest RX4 153 yX3_isOn "TraderRights") (by decide +kernel)
  have hseX3_isOn := hts (.selects RX3 yX3_isOn yX3_isOn) (List.mem_of_getElem? (i := 11) rfl)
  have hl := lv_entry ([.ref (ad 0), .int day]) (n := 4) (Nat.le_of_ble_eq_true rfl)
  rw [lg_entry_eq]
  generalize (lg_sl ([.ref (ad 0), .int day]) ++ List.replicate (4 - (lg_sl ([.ref (ad 0), .int day])).length) Slot.unset).toArray = ls at hl ⊢
  have hl : lv_has ls 4 [(0, .ref (ad 0)), (1, .int day)] := hl
  generalize hF : F_X4_aliveOn z v f day = R9
  generalize hQ9 : MQ below (vp_Si (fun r => r = R9)) _ s 0 0 (fun _ => False) = Q9
  rw [F_X4_aliveOn] at hF
  refine lv_iconst (v := 0) hx hb dX4_aliveOn_0 (by decide) ?_
  refine lv_istore_n (lv' := [(2, .int 0), (0, .ref (ad 0)), (1, .int day)]) hx hb dX4_aliveOn_1 rfl hl (by decide) rfl (fun ls hl => ?_)
  refine lv_iconst (v := 0) hx hb dX4_aliveOn_2 (by decide) ?_
  refine lv_istore_n (lv' := [(3, .int 0), (2, .int 0), (0, .ref (ad 0)), (1, .int day)]) hx hb dX4_aliveOn_3 rfl hl (by decide) rfl (fun ls hl => ?_)
  have lp4 : ∀ (n4 : Nat) (al : Int32) (k : Nat) (ls : Array Slot), k ≤ z 0 → z 0 < k + n4 → lv_has ls 4 [(0, .ref (ad 0)), (1, .int day), (2, .int al), (3, .int (nI k))] → (∀ ls : Array Slot, lv_has ls 4 [(0, .ref (ad 0)), (1, .int day), (2, .int (F_X4_aliveOn_L4 z v f day n4 al k))] → W p l e (headSpec wsX4_aliveOn ({ frames := 1, cells := 0, slots := 0, locals := 25 })).room s m ([.ref (ad 0), .int day] : List Value).toArray below meth c s.heap [] 0 0 Q9 (F0 m 46 ls [])) → W p l e (headSpec wsX4_aliveOn ({ frames := 1, cells := 0, slots := 0, locals := 25 })).room s m ([.ref (ad 0), .int day] : List Value).toArray below meth c s.heap [] 0 0 Q9 (F0 m 4 ls []) := by
    intro n4
    induction n4 with
    | zero =>
      intro al k ls hk4 hn4
      exact absurd hn4 (by omega)
    | succ n4 ih4 =>
      intro al k ls hk4 hn4 hl hq4
      generalize hF4 : F_X4_aliveOn_L4 z v f day (n4 + 1) al k = R4 at hq4
      rw [F_X4_aliveOn_L4] at hF4
      refine lv_iload_n hx hb dX4_aliveOn_4 rfl (lv_at hl 3 rfl) ?_
      refine lv_aload_n hx hb dX4_aliveOn_5 rfl (lv_at hl 0 rfl) ?_
      refine va_get (D := (dC, dI)) (ci := 4) (v := .int (nI (z 0))) (C := RX4) (T := TX4) (N := 11) hx hb hts hinX4 hown hK hP 0 rfl rfl 0 (by decide) hfl7 (fun _ h9 => h9) rfl dX4_aliveOn_6 ?_
      refine lv_icmp_ge (tgt := 46) hx hb dX4_aliveOn_9 (by decide) (fun c1 => ?_) (fun c1 => ?_)
      · have c1 : z 0 ≤ k := (nI_leI (a := z 0) (b := k) (by omega) (by omega)).mp c1
        rw [if_pos c1] at hF4
        subst hF4
        exact hq4 ls (lv_sub hl [0, 1, 2] rfl)
      · have c1 : ¬ z 0 ≤ k := fun h9 => c1 ((nI_leI (a := z 0) (b := k) (by omega) (by omega)).mpr h9)
        rw [if_neg c1] at hF4
        refine lv_aload_n hx hb dX4_aliveOn_12 rfl (lv_at hl 0 rfl) ?_
        refine lv_iload_n hx hb dX4_aliveOn_13 rfl (lv_at hl 3 rfl) ?_
        refine lv_iload_n hx hb dX4_aliveOn_14 rfl (lv_at hl 1 rfl) ?_
        refine vp_callSi (W.runV (As := [.int (nI k), .int day]) (rest := []) ⟨hx, hb, hml, hown, hts⟩ (c_X4_isEnded l dC dI ad cI cZ z v f (nI k) day hok (vp_in_nI (by omega) (by omega))) (cwV 2 hts gX4_aliveOn_X4_isEnded rfl rfl rfl (by decide +kernel) ⟨Nat.le_of_ble_eq_true rfl, Nat.le_of_ble_eq_true rfl⟩) (preX (ci := 4) (q0 := 0) hP hK hN rfl rfl rfl) rfl rfl hl.1 rfl (lv_room (Nat.le_of_ble_eq_true rfl)) dX4_aliveOn_15 ⟨Nat.zero_le _, Nat.zero_le _⟩) (fun r2 h9 => ?_)
        have hr2 : r2 = F_X4_isEnded z v f (nI k) day := h9
        try rw [← hr2] at hF
        try rw [← hr2] at hF4
        refine lv_if_ne (tgt := 40) hx hb dX4_aliveOn_18 (by decide) (fun c3 => ?_) (fun c3 => ?_)
        · rw [if_neg c3] at hF4
          have c3f : ¬ F_X4_isEnded z v f (nI k) day = 0 := by rw [← hr2]; exact c3
          refine lv_iinc (v := nI (k + 1)) (lv' := [(3, .int (nI (k + 1))), (0, .ref (ad 0)), (1, .int day), (2, .int al)]) hx hb dX4_aliveOn_40 hl (k := 3) rfl (xi_inc _) (by decide) rfl (fun ls hl => ?_)
          refine lv_goto (tgt := 4) hx hb dX4_aliveOn_43 (by decide) ?_
          exact ih4 al (k + 1) ls (by omega) (by omega) (lv_sub hl [1, 2, 3, 0] rfl) (by rw [hF4]; exact hq4)
        · rw [if_pos c3] at hF4
          have c3f : F_X4_isEnded z v f (nI k) day = 0 := by rw [← hr2]; exact c3
          refine lv_aload_n hx hb dX4_aliveOn_21 rfl (lv_at hl 0 rfl) ?_
          refine va_get (D := (dC, dI)) (ci := 4) (v := .ref (ad 17)) (C := RX4) (T := TX4) (N := 11) hx hb hts hinX4 hown hK hP 0 rfl rfl 9 (by decide) hfl55 (fun _ h9 => h9) rfl dX4_aliveOn_22 ?_
          refine lv_iload_n hx hb dX4_aliveOn_25 rfl (lv_at hl 3 rfl) ?_
          refine lv_iload_n hx hb dX4_aliveOn_26 rfl (lv_at hl 1 rfl) ?_
          refine vp_callSi (va_Run.run (va_runVN (As := [.int (nI k), .int day]) (rest := []) ⟨hx, hb, hml, hown, hts⟩ (c_X3_isOn l dC dI ad cI cZ z v f (nI k) day hok) ⟨(va_cnB 2 hts gX4_aliveOn_X3_isOn_n153 rfl rfl rfl hnw153 hiniX3 (by decide +kernel) ⟨Nat.le_of_ble_eq_true rfl, Nat.le_of_ble_eq_true rfl⟩), himX3_isOn, hseX3_isOn⟩ (preX (ci := 3) (q0 := 17) hP hK hN rfl rfl rfl) rfl rfl hl.1 rfl (lv_room (Nat.le_of_ble_eq_true rfl)) dX4_aliveOn_27 ⟨Nat.zero_le _, Nat.zero_le _⟩)) (fun r4 h9 => ?_)
          have hr4 : r4 = F_X3_isOn z v f (nI k) day := h9
          try rw [← hr4] at hF
          try rw [← hr4] at hF4
          refine lv_if_ne (tgt := 40) hx hb dX4_aliveOn_30 (by decide) (fun c5 => ?_) (fun c5 => ?_)
          · rw [if_neg c5] at hF4
            have c5f : ¬ F_X3_isOn z v f (nI k) day = 0 := by rw [← hr4]; exact c5
            refine lv_iinc (v := nI (k + 1)) (lv' := [(3, .int (nI (k + 1))), (0, .ref (ad 0)), (1, .int day), (2, .int al)]) hx hb dX4_aliveOn_40 hl (k := 3) rfl (xi_inc _) (by decide) rfl (fun ls hl => ?_)
            refine lv_goto (tgt := 4) hx hb dX4_aliveOn_43 (by decide) ?_
            exact ih4 al (k + 1) ls (by omega) (by omega) (lv_sub hl [1, 2, 3, 0] rfl) (by rw [hF4]; exact hq4)
          · rw [if_pos c5] at hF4
            have c5f : F_X3_isOn z v f (nI k) day = 0 := by rw [← hr4]; exact c5
            refine lv_iload_n hx hb dX4_aliveOn_33 rfl (lv_at hl 2 rfl) ?_
            refine lv_iload_n hx hb dX4_aliveOn_34 rfl (lv_at hl 3 rfl) ?_
            refine vp_callSi (W.runS (As := [.int (nI k)]) (rest := [.int al]) ⟨hx, hb, hml, hown, hts⟩ (c_X4_bit l (nI k)) (cwS 1 hts gX4_aliveOn_X4_bit rfl rfl rfl (by decide +kernel) ⟨Nat.le_of_ble_eq_true rfl, Nat.le_of_ble_eq_true rfl⟩) preT rfl rfl hl.1 rfl (lv_room (Nat.le_of_ble_eq_true rfl)) dX4_aliveOn_35 ⟨Nat.zero_le _, Nat.zero_le _⟩) (fun r6 h9 => ?_)
            have hr6 : r6 = F_X4_bit (nI k) := h9
            try rw [← hr6] at hF
            try rw [← hr6] at hF4
            refine lv_ior hx hb dX4_aliveOn_38 ?_
            refine lv_istore_n (lv' := [(2, .int (al ||| r6)), (0, .ref (ad 0)), (1, .int day), (3, .int (nI k))]) hx hb dX4_aliveOn_39 rfl hl (by decide) rfl (fun ls hl => ?_)
            refine lv_iinc (v := nI (k + 1)) (lv' := [(3, .int (nI (k + 1))), (2, .int (al ||| r6)), (0, .ref (ad 0)), (1, .int day)]) hx hb dX4_aliveOn_40 hl (k := 3) rfl (xi_inc _) (by decide) rfl (fun ls hl => ?_)
            refine lv_goto (tgt := 4) hx hb dX4_aliveOn_43 (by decide) ?_
            exact ih4 (al ||| r6) (k + 1) ls (by omega) (by omega) (lv_sub hl [2, 3, 1, 0] rfl) (by rw [hF4]; exact hq4)
  refine lp4 (z 0 + 1) 0 0 ls (by omega) (by omega) (lv_sub hl [2, 3, 1, 0] rfl) (fun ls hl => ?_)
  obtain ⟨r7, hr7⟩ : ∃ y, y = (F_X4_aliveOn_L4 z v f day (z 0 + 1) 0 0) := ⟨_, rfl⟩
  rw [← hr7] at hl
  try rw [← hr7] at hF
  refine lv_iload_n hx hb dX4_aliveOn_46 rfl (lv_at hl 2 rfl) ?_
  subst hQ9
  exact W.iret hx hb hr (fun t ht hW => ⟨_, rfl, hF, ht⟩) (fun q h => by cases h) dX4_aliveOn_47
def F_X4_groupsOfAll_L4 (z : Nat → Nat) (v : Nat → Int32) (f : Nat → Nat → Int32) (ms : Int32)  : Nat → Int32 → Nat → Int32
  | 0, al, k => al
  | n4 + 1, al, k =>
    if z 0 ≤ k then
      al
    else
      if F_X4_holds ms (nI k) = 0 then
        F_X4_groupsOfAll_L4 z v f ms n4 al (k + 1)
      else
        F_X4_groupsOfAll_L4 z v f ms n4 (al ||| (f 0 k)) (k + 1)
def F_X4_groupsOfAll (z : Nat → Nat) (v : Nat → Int32) (f : Nat → Nat → Int32) (ms : Int32) : Int32 :=
  (F_X4_groupsOfAll_L4 z v f ms (z 0 + 1) 0 0)
set_option maxHeartbeats 4000000 in
set_option maxRecDepth 100000 in
theorem c_X4_groupsOfAll (l : Launch) (dC : Nat → ClassId) (dI : Nat → Nat → Nat) (ad : Nat → Nat) (cI cZ : ClassId) (z : Nat → Nat) (v : Nat → Int32) (f : Nat → Nat → Int32) (ms : Int32) (hok : okX z v f) : Met l yX4_groupsOfAll wsX4_groupsOfAll ({ frames := 1, cells := 0, slots := 0, locals := 21 }) (va_Pc [.ref (ad 0), .int ms] (kX dC dI ad cI cZ z v f)) (vp_Si (fun r => r = F_X4_groupsOfAll z v f ms)) 0 0 (fun _ => False) := by
  refine Met.ofW (cc := cX4_groupsOfAll) (maxL := 4) (ret := (some .int)) (by decide) rfl ?_
  intro p e s m args below meth c s₁ B hml hv
  obtain ⟨rfl, hP, hK, hN⟩ := hv
  have hx := B.exec
  have hb := B.bytes
  have hr := B.returns
  have hts := atoms_spec (ws := wsX4_groupsOfAll) B.pre
  have hown : s.vm.findClass RX4 = some m.cls := findClass_of_methodNamed B.named
  have hlocks := B.notSynchronized
  have hok9 := hok
  obtain ⟨hz0, hz1, hz2, hz3, hz4, hbz, hbs⟩ := hok9
  have hfl16 := hts (.fieldLink RX4 16 "TraderRights" "directGroups" "[I") (List.mem_of_getElem? (i := 2) rfl)
  have hfl7 := hts (.fieldLink RX4 7 "TraderRights" "traders" "I") (List.mem_of_getElem? (i := 1) rfl)
  have hinX4 : ∀ w ∈ u_ws RX4 TX4 11, w ∈ wsX4_groupsOfAll := fun w h => List.mem_cons_of_mem _ (List.mem_append_right _ h)
  have hl := lv_entry ([.ref (ad 0), .int ms]) (n := 4) (Nat.le_of_ble_eq_true rfl)
  rw [lg_entry_eq]
  generalize (lg_sl ([.ref (ad 0), .int ms]) ++ List.replicate (4 - (lg_sl ([.ref (ad 0), .int ms])).length) Slot.unset).toArray = ls at hl ⊢
  have hl : lv_has ls 4 [(0, .ref (ad 0)), (1, .int ms)] := hl
  generalize hF : F_X4_groupsOfAll z v f ms = R9
  generalize hQ9 : MQ below (vp_Si (fun r => r = R9)) _ s 0 0 (fun _ => False) = Q9
  rw [F_X4_groupsOfAll] at hF
  refine lv_iconst (v := 0) hx hb dX4_groupsOfAll_0 (by decide) ?_
  refine lv_istore_n (lv' := [(2, .int 0), (0, .ref (ad 0)), (1, .int ms)]) hx hb dX4_groupsOfAll_1 rfl hl (by decide) rfl (fun ls hl => ?_)
  refine lv_iconst (v := 0) hx hb dX4_groupsOfAll_2 (by decide) ?_
  refine lv_istore_n (lv' := [(3, .int 0), (2, .int 0), (0, .ref (ad 0)), (1, .int ms)]) hx hb dX4_groupsOfAll_3 rfl hl (by decide) rfl (fun ls hl => ?_)
  have lp4 : ∀ (n4 : Nat) (al : Int32) (k : Nat) (ls : Array Slot), k ≤ z 0 → z 0 < k + n4 → lv_has ls 4 [(0, .ref (ad 0)), (1, .int ms), (2, .int al), (3, .int (nI k))] → (∀ ls : Array Slot, lv_has ls 4 [(0, .ref (ad 0)), (1, .int ms), (2, .int (F_X4_groupsOfAll_L4 z v f ms n4 al k))] → W p l e (headSpec wsX4_groupsOfAll ({ frames := 1, cells := 0, slots := 0, locals := 21 })).room s m ([.ref (ad 0), .int ms] : List Value).toArray below meth c s.heap [] 0 0 Q9 (F0 m 35 ls [])) → W p l e (headSpec wsX4_groupsOfAll ({ frames := 1, cells := 0, slots := 0, locals := 21 })).room s m ([.ref (ad 0), .int ms] : List Value).toArray below meth c s.heap [] 0 0 Q9 (F0 m 4 ls []) := by
    intro n4
    induction n4 with
    | zero =>
      intro al k ls hk4 hn4
      exact absurd hn4 (by omega)
    | succ n4 ih4 =>
      intro al k ls hk4 hn4 hl hq4
      generalize hF4 : F_X4_groupsOfAll_L4 z v f ms (n4 + 1) al k = R4 at hq4
      rw [F_X4_groupsOfAll_L4] at hF4
      refine lv_iload_n hx hb dX4_groupsOfAll_4 rfl (lv_at hl 3 rfl) ?_
      refine lv_aload_n hx hb dX4_groupsOfAll_5 rfl (lv_at hl 0 rfl) ?_
      refine va_get (D := (dC, dI)) (ci := 4) (v := .int (nI (z 0))) (C := RX4) (T := TX4) (N := 11) hx hb hts hinX4 hown hK hP 0 rfl rfl 0 (by decide) hfl7 (fun _ h9 => h9) rfl dX4_groupsOfAll_6 ?_
      refine lv_icmp_ge (tgt := 35) hx hb dX4_groupsOfAll_9 (by decide) (fun c1 => ?_) (fun c1 => ?_)
      · have c1 : z 0 ≤ k := (nI_leI (a := z 0) (b := k) (by omega) (by omega)).mp c1
        rw [if_pos c1] at hF4
        subst hF4
        exact hq4 ls (lv_sub hl [0, 1, 2] rfl)
      · have c1 : ¬ z 0 ≤ k := fun h9 => c1 ((nI_leI (a := z 0) (b := k) (by omega) (by omega)).mpr h9)
        rw [if_neg c1] at hF4
        refine lv_iload_n hx hb dX4_groupsOfAll_12 rfl (lv_at hl 1 rfl) ?_
        refine lv_iload_n hx hb dX4_groupsOfAll_13 rfl (lv_at hl 3 rfl) ?_
        refine vp_callSi (W.runS (As := [.int ms, .int (nI k)]) (rest := []) ⟨hx, hb, hml, hown, hts⟩ (c_X4_holds l ms (nI k)) (cwS 2 hts gX4_groupsOfAll_X4_holds rfl rfl rfl (by decide +kernel) ⟨Nat.le_of_ble_eq_true rfl, Nat.le_of_ble_eq_true rfl⟩) preT rfl rfl hl.1 rfl (lv_room (Nat.le_of_ble_eq_true rfl)) dX4_groupsOfAll_14 ⟨Nat.zero_le _, Nat.zero_le _⟩) (fun r2 h9 => ?_)
        have hr2 : r2 = F_X4_holds ms (nI k) := h9
        try rw [← hr2] at hF
        try rw [← hr2] at hF4
        refine lv_if_eq (tgt := 29) hx hb dX4_groupsOfAll_17 (by decide) (fun c3 => ?_) (fun c3 => ?_)
        · rw [if_pos c3] at hF4
          have c3f : F_X4_holds ms (nI k) = 0 := by rw [← hr2]; exact c3
          refine lv_iinc (v := nI (k + 1)) (lv' := [(3, .int (nI (k + 1))), (0, .ref (ad 0)), (1, .int ms), (2, .int al)]) hx hb dX4_groupsOfAll_29 hl (k := 3) rfl (xi_inc _) (by decide) rfl (fun ls hl => ?_)
          refine lv_goto (tgt := 4) hx hb dX4_groupsOfAll_32 (by decide) ?_
          exact ih4 al (k + 1) ls (by omega) (by omega) (lv_sub hl [1, 2, 3, 0] rfl) (by rw [hF4]; exact hq4)
        · rw [if_neg c3] at hF4
          have c3f : ¬ F_X4_holds ms (nI k) = 0 := by rw [← hr2]; exact c3
          refine lv_iload_n hx hb dX4_groupsOfAll_20 rfl (lv_at hl 2 rfl) ?_
          refine lv_aload_n hx hb dX4_groupsOfAll_21 rfl (lv_at hl 0 rfl) ?_
          refine va_get (D := (dC, dI)) (ci := 4) (v := .ref (ad 1)) (C := RX4) (T := TX4) (N := 11) hx hb hts hinX4 hown hK hP 0 rfl rfl 2 (by decide) hfl16 (fun _ h9 => h9) rfl dX4_groupsOfAll_22 ?_
          refine lv_iload_n hx hb dX4_groupsOfAll_25 rfl (lv_at hl 3 rfl) ?_
          refine xa_ild hx hb hK hP 1 0 rfl rfl (by omega) (by decide) dX4_groupsOfAll_26 ?_
          refine lv_ior hx hb dX4_groupsOfAll_27 ?_
          refine lv_istore_n (lv' := [(2, .int (al ||| (f 0 k))), (0, .ref (ad 0)), (1, .int ms), (3, .int (nI k))]) hx hb dX4_groupsOfAll_28 rfl hl (by decide) rfl (fun ls hl => ?_)
          refine lv_iinc (v := nI (k + 1)) (lv' := [(3, .int (nI (k + 1))), (2, .int (al ||| (f 0 k))), (0, .ref (ad 0)), (1, .int ms)]) hx hb dX4_groupsOfAll_29 hl (k := 3) rfl (xi_inc _) (by decide) rfl (fun ls hl => ?_)
          refine lv_goto (tgt := 4) hx hb dX4_groupsOfAll_32 (by decide) ?_
          exact ih4 (al ||| (f 0 k)) (k + 1) ls (by omega) (by omega) (lv_sub hl [2, 3, 1, 0] rfl) (by rw [hF4]; exact hq4)
  refine lp4 (z 0 + 1) 0 0 ls (by omega) (by omega) (lv_sub hl [2, 3, 1, 0] rfl) (fun ls hl => ?_)
  obtain ⟨r4, hr4⟩ : ∃ y, y = (F_X4_groupsOfAll_L4 z v f ms (z 0 + 1) 0 0) := ⟨_, rfl⟩
  rw [← hr4] at hl
  try rw [← hr4] at hF
  refine lv_iload_n hx hb dX4_groupsOfAll_35 rfl (lv_at hl 2 rfl) ?_
  subst hQ9
  exact W.iret hx hb hr (fun t ht hW => ⟨_, rfl, hF, ht⟩) (fun q h => by cases h) dX4_groupsOfAll_36
def F_X4_groupsAmong_L12 (z : Nat → Nat) (v : Nat → Int32) (f : Nat → Nat → Int32) (t aw : Int32)  : Nat → Int32 → Nat → Int32
  | 0, fo, k => fo
  | n12 + 1, fo, k =>
    if z 0 ≤ k then
      fo
    else
      F_X4_groupsAmong_L12 z v f t aw n12 (fo ||| ((F_X4_groupsOfAll z v f fo) &&& aw)) (k + 1)
def F_X4_groupsAmong (z : Nat → Nat) (v : Nat → Int32) (f : Nat → Nat → Int32) (t aw : Int32) : Int32 :=
  (F_X4_groupsAmong_L12 z v f t aw (z 0 + 1) ((f 0 t.toNatClampNeg) &&& aw) 2)
set_option maxHeartbeats 4000000 in
set_option maxRecDepth 100000 in
theorem c_X4_groupsAmong (l : Launch) (dC : Nat → ClassId) (dI : Nat → Nat → Nat) (ad : Nat → Nat) (cI cZ : ClassId) (z : Nat → Nat) (v : Nat → Int32) (f : Nat → Nat → Int32) (t aw : Int32) (hok : okX z v f) (ht : vp_in t 12) : Met l yX4_groupsAmong wsX4_groupsAmong ({ frames := 2, cells := 0, slots := 0, locals := 44 }) (va_Pc [.ref (ad 0), .int t, .int aw] (kX dC dI ad cI cZ z v f)) (vp_Si (fun r => r = F_X4_groupsAmong z v f t aw)) 0 0 (fun _ => False) := by
  refine Met.ofW (cc := cX4_groupsAmong) (maxL := 5) (ret := (some .int)) (by decide) rfl ?_
  intro p e s m args below meth c s₁ B hml hv
  obtain ⟨rfl, hP, hK, hN⟩ := hv
  have hx := B.exec
  have hb := B.bytes
  have hr := B.returns
  have hts := atoms_spec (ws := wsX4_groupsAmong) B.pre
  have hown : s.vm.findClass RX4 = some m.cls := findClass_of_methodNamed B.named
  have hlocks := B.notSynchronized
  have hok9 := hok
  obtain ⟨hz0, hz1, hz2, hz3, hz4, hbz, hbs⟩ := hok9
  have hfl16 := hts (.fieldLink RX4 16 "TraderRights" "directGroups" "[I") (List.mem_of_getElem? (i := 1) rfl)
  have hfl7 := hts (.fieldLink RX4 7 "TraderRights" "traders" "I") (List.mem_of_getElem? (i := 2) rfl)
  have hinX4 : ∀ w ∈ u_ws RX4 TX4 11, w ∈ wsX4_groupsAmong := fun w h => List.mem_cons_of_mem _ (List.mem_append_right _ h)
  have hl := lv_entry ([.ref (ad 0), .int t, .int aw]) (n := 5) (Nat.le_of_ble_eq_true rfl)
  rw [lg_entry_eq]
  generalize (lg_sl ([.ref (ad 0), .int t, .int aw]) ++ List.replicate (5 - (lg_sl ([.ref (ad 0), .int t, .int aw])).length) Slot.unset).toArray = ls at hl ⊢
  have hl : lv_has ls 5 [(0, .ref (ad 0)), (1, .int t), (2, .int aw)] := hl
  generalize hF : F_X4_groupsAmong z v f t aw = R9
  generalize hQ9 : MQ below (vp_Si (fun r => r = R9)) _ s 0 0 (fun _ => False) = Q9
  rw [F_X4_groupsAmong] at hF
  refine lv_aload_n hx hb dX4_groupsAmong_0 rfl (lv_at hl 0 rfl) ?_
  refine va_get (D := (dC, dI)) (ci := 4) (v := .ref (ad 1)) (C := RX4) (T := TX4) (N := 11) hx hb hts hinX4 hown hK hP 0 rfl rfl 2 (by decide) hfl16 (fun _ h9 => h9) rfl dX4_groupsAmong_1 ?_
  refine lv_iload_n hx hb dX4_groupsAmong_4 rfl (lv_at hl 1 rfl) ?_
  refine va_iald hx hb hK hP 1 0 rfl rfl ht dX4_groupsAmong_5 ?_
  refine lv_iload_n hx hb dX4_groupsAmong_6 rfl (lv_at hl 2 rfl) ?_
  refine lv_iand hx hb dX4_groupsAmong_7 ?_
  refine lv_istore_n (lv' := [(3, .int ((f 0 t.toNatClampNeg) &&& aw)), (0, .ref (ad 0)), (1, .int t), (2, .int aw)]) hx hb dX4_groupsAmong_8 rfl hl (by decide) rfl (fun ls hl => ?_)
  refine lv_iconst (v := 2) hx hb dX4_groupsAmong_9 (by decide) ?_
  refine lv_istore (lv' := [(4, .int 2), (3, .int ((f 0 t.toNatClampNeg) &&& aw)), (0, .ref (ad 0)), (1, .int t), (2, .int aw)]) hx hb dX4_groupsAmong_10 hl (by decide) rfl (fun ls hl => ?_)
  have lp12 : ∀ (n12 : Nat) (fo : Int32) (k : Nat) (ls : Array Slot), k ≤ z 0 + 2 → z 0 + 2 < k + n12 → lv_has ls 5 [(0, .ref (ad 0)), (1, .int t), (2, .int aw), (3, .int fo), (4, .int (nI k))] → (∀ ls : Array Slot, lv_has ls 5 [(0, .ref (ad 0)), (1, .int t), (2, .int aw), (3, .int (F_X4_groupsAmong_L12 z v f t aw n12 fo k))] → W p l e (headSpec wsX4_groupsAmong ({ frames := 2, cells := 0, slots := 0, locals := 44 })).room s m ([.ref (ad 0), .int t, .int aw] : List Value).toArray below meth c s.heap [] 0 0 Q9 (F0 m 37 ls [])) → W p l e (headSpec wsX4_groupsAmong ({ frames := 2, cells := 0, slots := 0, locals := 44 })).room s m ([.ref (ad 0), .int t, .int aw] : List Value).toArray below meth c s.heap [] 0 0 Q9 (F0 m 12 ls []) := by
    intro n12
    induction n12 with
    | zero =>
      intro fo k ls hk12 hn12
      exact absurd hn12 (by omega)
    | succ n12 ih12 =>
      intro fo k ls hk12 hn12 hl hq12
      generalize hF12 : F_X4_groupsAmong_L12 z v f t aw (n12 + 1) fo k = R12 at hq12
      rw [F_X4_groupsAmong_L12] at hF12
      refine lv_iload hx hb dX4_groupsAmong_12 (lv_at hl 4 rfl) ?_
      refine lv_aload_n hx hb dX4_groupsAmong_14 rfl (lv_at hl 0 rfl) ?_
      refine va_get (D := (dC, dI)) (ci := 4) (v := .int (nI (z 0))) (C := RX4) (T := TX4) (N := 11) hx hb hts hinX4 hown hK hP 0 rfl rfl 0 (by decide) hfl7 (fun _ h9 => h9) rfl dX4_groupsAmong_15 ?_
      refine lv_icmp_ge (tgt := 37) hx hb dX4_groupsAmong_18 (by decide) (fun c1 => ?_) (fun c1 => ?_)
      · have c1 : z 0 ≤ k := (nI_leI (a := z 0) (b := k) (by omega) (by omega)).mp c1
        rw [if_pos c1] at hF12
        subst hF12
        exact hq12 ls (lv_sub hl [0, 1, 2, 3] rfl)
      · have c1 : ¬ z 0 ≤ k := fun h9 => c1 ((nI_leI (a := z 0) (b := k) (by omega) (by omega)).mpr h9)
        rw [if_neg c1] at hF12
        refine lv_iload_n hx hb dX4_groupsAmong_21 rfl (lv_at hl 3 rfl) ?_
        refine lv_aload_n hx hb dX4_groupsAmong_22 rfl (lv_at hl 0 rfl) ?_
        refine lv_iload_n hx hb dX4_groupsAmong_23 rfl (lv_at hl 3 rfl) ?_
        refine vp_callSi (W.runV (As := [.int fo]) (rest := [.int fo]) ⟨hx, hb, hml, hown, hts⟩ (c_X4_groupsOfAll l dC dI ad cI cZ z v f fo hok) (cwV 1 hts gX4_groupsAmong_X4_groupsOfAll rfl rfl rfl (by decide +kernel) ⟨Nat.le_of_ble_eq_true rfl, Nat.le_of_ble_eq_true rfl⟩) (preX (ci := 4) (q0 := 0) hP hK hN rfl rfl rfl) rfl rfl hl.1 rfl (lv_room (Nat.le_of_ble_eq_true rfl)) dX4_groupsAmong_24 ⟨Nat.zero_le _, Nat.zero_le _⟩) (fun r2 h9 => ?_)
        have hr2 : r2 = F_X4_groupsOfAll z v f fo := h9
        try rw [← hr2] at hF
        try rw [← hr2] at hF12
        refine lv_iload_n hx hb dX4_groupsAmong_27 rfl (lv_at hl 2 rfl) ?_
        refine lv_iand hx hb dX4_groupsAmong_28 ?_
        refine lv_ior hx hb dX4_groupsAmong_29 ?_
        refine lv_istore_n (lv' := [(3, .int (fo ||| (r2 &&& aw))), (0, .ref (ad 0)), (1, .int t), (2, .int aw), (4, .int (nI k))]) hx hb dX4_groupsAmong_30 rfl hl (by decide) rfl (fun ls hl => ?_)
        refine lv_iinc (v := nI (k + 1)) (lv' := [(4, .int (nI (k + 1))), (3, .int (fo ||| (r2 &&& aw))), (0, .ref (ad 0)), (1, .int t), (2, .int aw)]) hx hb dX4_groupsAmong_31 hl (k := 4) rfl (xi_inc _) (by decide) rfl (fun ls hl => ?_)
        refine lv_goto (tgt := 12) hx hb dX4_groupsAmong_34 (by decide) ?_
        exact ih12 (fo ||| (r2 &&& aw)) (k + 1) ls (by omega) (by omega) (lv_sub hl [2, 3, 4, 1, 0] rfl) (by rw [hF12]; exact hq12)
  refine lp12 (z 0 + 1) ((f 0 t.toNatClampNeg) &&& aw) 2 ls (by omega) (by omega) (lv_sub hl [2, 3, 4, 1, 0] rfl) (fun ls hl => ?_)
  obtain ⟨r3, hr3⟩ : ∃ y, y = (F_X4_groupsAmong_L12 z v f t aw (z 0 + 1) ((f 0 t.toNatClampNeg) &&& aw) 2) := ⟨_, rfl⟩
  rw [← hr3] at hl
  try rw [← hr3] at hF
  refine lv_iload_n hx hb dX4_groupsAmong_37 rfl (lv_at hl 3 rfl) ?_
  subst hQ9
  exact W.iret hx hb hr (fun t ht hW => ⟨_, rfl, hF, ht⟩) (fun q h => by cases h) dX4_groupsAmong_38
