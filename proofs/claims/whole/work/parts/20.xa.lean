/-- what the class's state keeps: bounds, and booleans that are 0 or 1 -/
def okX (z : Nat → Nat) (v : Nat → Int32) (f : Nat → Nat → Int32) : Prop := z 0 ≤ 12 ∧ z 1 ≤ 60 ∧ z 2 ≤ 60 ∧ z 3 ≤ 60 ∧ z 4 ≤ 6 ∧ (∀ k, zB (f 12 k)) ∧ (∀ k, zB (f 16 k))
/-- what the reference's state keeps -/
def okM (z : Nat → Nat) (v : Nat → Int32) (f : Nat → Nat → Int32) : Prop := z 0 ≤ 12 ∧ z 1 ≤ 60 ∧ z 2 ≤ 60 ∧ z 3 ≤ 60 ∧ z 4 ≤ 6 ∧ (∀ k, zB (f 11 k)) ∧ (∀ k, zB (f 15 k)) ∧ (∀ k, k < z 0 → f 2 k < 0 ∨ vp_in (f 2 k) 12) ∧ (∀ k, k < z 2 → vp_in (f 9 k) 12)
def F_X4_isAct (a : Int32) : Int32 :=
  if a < 0 then
    0
  else
    if 8 ≤ a then
      0
    else
      1
set_option maxHeartbeats 4000000 in
set_option maxRecDepth 100000 in
theorem c_X4_isAct (l : Launch) (a : Int32) : Met l yX4_isAct wsX4_isAct ({ frames := 0, cells := 0, slots := 0, locals := 0 }) (va_Pc [.int a] (fun _ => True)) (vp_Si (fun r => r = F_X4_isAct a)) 0 0 (fun _ => False) := by
  refine Met.ofW (cc := cX4_isAct) (maxL := 1) (ret := (some .boolean)) (by decide) rfl ?_
  intro p e s m args below meth c s₁ B hml hv
  obtain ⟨rfl, -⟩ := hv
  have hx := B.exec
  have hb := B.bytes
  have hr := B.returns
  have hts := atoms_spec (ws := wsX4_isAct) B.pre
  have hown : s.vm.findClass RX4 = some m.cls := findClass_of_methodNamed B.named
  have hlocks := B.notSynchronized
  have hl := lv_entry ([.int a]) (n := 1) (Nat.le_of_ble_eq_true rfl)
  rw [lg_entry_eq]
  generalize (lg_sl ([.int a]) ++ List.replicate (1 - (lg_sl ([.int a])).length) Slot.unset).toArray = ls at hl ⊢
  have hl : lv_has ls 1 [(0, .int a)] := hl
  generalize hF : F_X4_isAct a = R9
  generalize hQ9 : MQ below (vp_Si (fun r => r = R9)) _ s 0 0 (fun _ => False) = Q9
  rw [F_X4_isAct] at hF
  refine lv_iload_n hx hb dX4_isAct_0 rfl (lv_at hl 0 rfl) ?_
  refine lv_if_lt (tgt := 14) hx hb dX4_isAct_1 (by decide) (fun c1 => ?_) (fun c1 => ?_)
  · rw [if_pos c1] at hF
    refine lv_iconst (v := 0) hx hb dX4_isAct_14 (by decide) ?_
    subst hQ9
    exact W.zret (ty := .boolean) hx hb hr rfl (fun t ht hW => ⟨_, rfl, hF, ht⟩) (fun q h => by cases h) dX4_isAct_15
  · rw [if_neg c1] at hF
    refine lv_iload_n hx hb dX4_isAct_4 rfl (lv_at hl 0 rfl) ?_
    refine lv_bipush (v := 8) hx hb dX4_isAct_5 (by decide) ?_
    refine lv_icmp_ge (tgt := 14) hx hb dX4_isAct_7 (by decide) (fun c2 => ?_) (fun c2 => ?_)
    · rw [if_pos c2] at hF
      refine lv_iconst (v := 0) hx hb dX4_isAct_14 (by decide) ?_
      subst hQ9
      exact W.zret (ty := .boolean) hx hb hr rfl (fun t ht hW => ⟨_, rfl, hF, ht⟩) (fun q h => by cases h) dX4_isAct_15
    · rw [if_neg c2] at hF
      refine lv_iconst (v := 1) hx hb dX4_isAct_10 (by decide) ?_
      refine lv_goto (tgt := 15) hx hb dX4_isAct_11 (by decide) ?_
      subst hQ9
      exact W.zret (ty := .boolean) hx hb hr rfl (fun t ht hW => ⟨_, rfl, hF, ht⟩) (fun q h => by cases h) dX4_isAct_15
def F_X4_isPlace (a : Int32) : Int32 :=
  if a < 0 then
    0
  else
    if 8 ≤ a then
      0
    else
      1
set_option maxHeartbeats 4000000 in
set_option maxRecDepth 100000 in
theorem c_X4_isPlace (l : Launch) (a : Int32) : Met l yX4_isPlace wsX4_isPlace ({ frames := 0, cells := 0, slots := 0, locals := 0 }) (va_Pc [.int a] (fun _ => True)) (vp_Si (fun r => r = F_X4_isPlace a)) 0 0 (fun _ => False) := by
  refine Met.ofW (cc := cX4_isPlace) (maxL := 1) (ret := (some .boolean)) (by decide) rfl ?_
  intro p e s m args below meth c s₁ B hml hv
  obtain ⟨rfl, -⟩ := hv
  have hx := B.exec
  have hb := B.bytes
  have hr := B.returns
  have hts := atoms_spec (ws := wsX4_isPlace) B.pre
  have hown : s.vm.findClass RX4 = some m.cls := findClass_of_methodNamed B.named
  have hlocks := B.notSynchronized
  have hl := lv_entry ([.int a]) (n := 1) (Nat.le_of_ble_eq_true rfl)
  rw [lg_entry_eq]
  generalize (lg_sl ([.int a]) ++ List.replicate (1 - (lg_sl ([.int a])).length) Slot.unset).toArray = ls at hl ⊢
  have hl : lv_has ls 1 [(0, .int a)] := hl
  generalize hF : F_X4_isPlace a = R9
  generalize hQ9 : MQ below (vp_Si (fun r => r = R9)) _ s 0 0 (fun _ => False) = Q9
  rw [F_X4_isPlace] at hF
  refine lv_iload_n hx hb dX4_isPlace_0 rfl (lv_at hl 0 rfl) ?_
  refine lv_if_lt (tgt := 14) hx hb dX4_isPlace_1 (by decide) (fun c1 => ?_) (fun c1 => ?_)
  · rw [if_pos c1] at hF
    refine lv_iconst (v := 0) hx hb dX4_isPlace_14 (by decide) ?_
    subst hQ9
    exact W.zret (ty := .boolean) hx hb hr rfl (fun t ht hW => ⟨_, rfl, hF, ht⟩) (fun q h => by cases h) dX4_isPlace_15
  · rw [if_neg c1] at hF
    refine lv_iload_n hx hb dX4_isPlace_4 rfl (lv_at hl 0 rfl) ?_
    refine lv_bipush (v := 8) hx hb dX4_isPlace_5 (by decide) ?_
    refine lv_icmp_ge (tgt := 14) hx hb dX4_isPlace_7 (by decide) (fun c2 => ?_) (fun c2 => ?_)
    · rw [if_pos c2] at hF
      refine lv_iconst (v := 0) hx hb dX4_isPlace_14 (by decide) ?_
      subst hQ9
      exact W.zret (ty := .boolean) hx hb hr rfl (fun t ht hW => ⟨_, rfl, hF, ht⟩) (fun q h => by cases h) dX4_isPlace_15
    · rw [if_neg c2] at hF
      refine lv_iconst (v := 1) hx hb dX4_isPlace_10 (by decide) ?_
      refine lv_goto (tgt := 15) hx hb dX4_isPlace_11 (by decide) ?_
      subst hQ9
      exact W.zret (ty := .boolean) hx hb hr rfl (fun t ht hW => ⟨_, rfl, hF, ht⟩) (fun q h => by cases h) dX4_isPlace_15
def F_X4_isDay (a : Int32) : Int32 :=
  if a < 0 then
    0
  else
    if 100000 < a then
      0
    else
      1
set_option maxHeartbeats 4000000 in
set_option maxRecDepth 100000 in
theorem c_X4_isDay (l : Launch) (a : Int32) : Met l yX4_isDay wsX4_isDay ({ frames := 0, cells := 0, slots := 0, locals := 0 }) (va_Pc [.int a] (fun _ => True)) (vp_Si (fun r => r = F_X4_isDay a)) 0 0 (fun _ => False) := by
  refine Met.ofW (cc := cX4_isDay) (maxL := 1) (ret := (some .boolean)) (by decide) rfl ?_
  intro p e s m args below meth c s₁ B hml hv
  obtain ⟨rfl, -⟩ := hv
  have hx := B.exec
  have hb := B.bytes
  have hr := B.returns
  have hts := atoms_spec (ws := wsX4_isDay) B.pre
  have hown : s.vm.findClass RX4 = some m.cls := findClass_of_methodNamed B.named
  have hlocks := B.notSynchronized
  have hcn200 := hts (.constant RX4 200 (100000)) (List.mem_of_getElem? (i := 1) rfl)
  have hl := lv_entry ([.int a]) (n := 1) (Nat.le_of_ble_eq_true rfl)
  rw [lg_entry_eq]
  generalize (lg_sl ([.int a]) ++ List.replicate (1 - (lg_sl ([.int a])).length) Slot.unset).toArray = ls at hl ⊢
  have hl : lv_has ls 1 [(0, .int a)] := hl
  generalize hF : F_X4_isDay a = R9
  generalize hQ9 : MQ below (vp_Si (fun r => r = R9)) _ s 0 0 (fun _ => False) = Q9
  rw [F_X4_isDay] at hF
  refine lv_iload_n hx hb dX4_isDay_0 rfl (lv_at hl 0 rfl) ?_
  refine lv_if_lt (tgt := 14) hx hb dX4_isDay_1 (by decide) (fun c1 => ?_) (fun c1 => ?_)
  · rw [if_pos c1] at hF
    refine lv_iconst (v := 0) hx hb dX4_isDay_14 (by decide) ?_
    subst hQ9
    exact W.zret (ty := .boolean) hx hb hr rfl (fun t ht hW => ⟨_, rfl, hF, ht⟩) (fun q h => by cases h) dX4_isDay_15
  · rw [if_neg c1] at hF
    refine lv_iload_n hx hb dX4_isDay_4 rfl (lv_at hl 0 rfl) ?_
    refine lv_ldc (v := 100000) hx hb hown hcn200 dX4_isDay_5 ?_
    refine lv_icmp_gt (tgt := 14) hx hb dX4_isDay_7 (by decide) (fun c2 => ?_) (fun c2 => ?_)
    · rw [if_pos c2] at hF
      refine lv_iconst (v := 0) hx hb dX4_isDay_14 (by decide) ?_
      subst hQ9
      exact W.zret (ty := .boolean) hx hb hr rfl (fun t ht hW => ⟨_, rfl, hF, ht⟩) (fun q h => by cases h) dX4_isDay_15
    · rw [if_neg c2] at hF
      refine lv_iconst (v := 1) hx hb dX4_isDay_10 (by decide) ?_
      refine lv_goto (tgt := 15) hx hb dX4_isDay_11 (by decide) ?_
      subst hQ9
      exact W.zret (ty := .boolean) hx hb hr rfl (fun t ht hW => ⟨_, rfl, hF, ht⟩) (fun q h => by cases h) dX4_isDay_15
def F_X4_bit (a : Int32) : Int32 :=
  1 <<< (a &&& 31)
set_option maxHeartbeats 4000000 in
set_option maxRecDepth 100000 in
theorem c_X4_bit (l : Launch) (a : Int32) : Met l yX4_bit wsX4_bit ({ frames := 0, cells := 0, slots := 0, locals := 0 }) (va_Pc [.int a] (fun _ => True)) (vp_Si (fun r => r = F_X4_bit a)) 0 0 (fun _ => False) := by
  refine Met.ofW (cc := cX4_bit) (maxL := 1) (ret := (some .int)) (by decide) rfl ?_
  intro p e s m args below meth c s₁ B hml hv
  obtain ⟨rfl, -⟩ := hv
  have hx := B.exec
  have hb := B.bytes
  have hr := B.returns
  have hts := atoms_spec (ws := wsX4_bit) B.pre
  have hown : s.vm.findClass RX4 = some m.cls := findClass_of_methodNamed B.named
  have hlocks := B.notSynchronized
  have hl := lv_entry ([.int a]) (n := 1) (Nat.le_of_ble_eq_true rfl)
  rw [lg_entry_eq]
  generalize (lg_sl ([.int a]) ++ List.replicate (1 - (lg_sl ([.int a])).length) Slot.unset).toArray = ls at hl ⊢
  have hl : lv_has ls 1 [(0, .int a)] := hl
  generalize hF : F_X4_bit a = R9
  generalize hQ9 : MQ below (vp_Si (fun r => r = R9)) _ s 0 0 (fun _ => False) = Q9
  rw [F_X4_bit] at hF
  refine lv_iconst (v := 1) hx hb dX4_bit_0 (by decide) ?_
  refine lv_iload_n hx hb dX4_bit_1 rfl (lv_at hl 0 rfl) ?_
  refine lv_ishl hx hb dX4_bit_2 ?_
  subst hQ9
  exact W.iret hx hb hr (fun t ht hW => ⟨_, rfl, hF, ht⟩) (fun q h => by cases h) dX4_bit_3
def F_X4_holds (a b : Int32) : Int32 :=
  if ((a >>> (b &&& 31)) &&& 1) = 0 then
    0
  else
    1
set_option maxHeartbeats 4000000 in
set_option maxRecDepth 100000 in
theorem c_X4_holds (l : Launch) (a b : Int32) : Met l yX4_holds wsX4_holds ({ frames := 0, cells := 0, slots := 0, locals := 0 }) (va_Pc [.int a, .int b] (fun _ => True)) (vp_Si (fun r => r = F_X4_holds a b)) 0 0 (fun _ => False) := by
  refine Met.ofW (cc := cX4_holds) (maxL := 2) (ret := (some .boolean)) (by decide) rfl ?_
  intro p e s m args below meth c s₁ B hml hv
  obtain ⟨rfl, -⟩ := hv
  have hx := B.exec
  have hb := B.bytes
  have hr := B.returns
  have hts := atoms_spec (ws := wsX4_holds) B.pre
  have hown : s.vm.findClass RX4 = some m.cls := findClass_of_methodNamed B.named
  have hlocks := B.notSynchronized
  have hl := lv_entry ([.int a, .int b]) (n := 2) (Nat.le_of_ble_eq_true rfl)
  rw [lg_entry_eq]
  generalize (lg_sl ([.int a, .int b]) ++ List.replicate (2 - (lg_sl ([.int a, .int b])).length) Slot.unset).toArray = ls at hl ⊢
  have hl : lv_has ls 2 [(0, .int a), (1, .int b)] := hl
  generalize hF : F_X4_holds a b = R9
  generalize hQ9 : MQ below (vp_Si (fun r => r = R9)) _ s 0 0 (fun _ => False) = Q9
  rw [F_X4_holds] at hF
  refine lv_iload_n hx hb dX4_holds_0 rfl (lv_at hl 0 rfl) ?_
  refine lv_iload_n hx hb dX4_holds_1 rfl (lv_at hl 1 rfl) ?_
  refine lv_ishr hx hb dX4_holds_2 ?_
  refine lv_iconst (v := 1) hx hb dX4_holds_3 (by decide) ?_
  refine lv_iand hx hb dX4_holds_4 ?_
  refine lv_if_eq (tgt := 12) hx hb dX4_holds_5 (by decide) (fun c1 => ?_) (fun c1 => ?_)
  · rw [if_pos c1] at hF
    refine lv_iconst (v := 0) hx hb dX4_holds_12 (by decide) ?_
    subst hQ9
    exact W.zret (ty := .boolean) hx hb hr rfl (fun t ht hW => ⟨_, rfl, hF, ht⟩) (fun q h => by cases h) dX4_holds_13
  · rw [if_neg c1] at hF
    refine lv_iconst (v := 1) hx hb dX4_holds_8 (by decide) ?_
    refine lv_goto (tgt := 13) hx hb dX4_holds_9 (by decide) ?_
    subst hQ9
    exact W.zret (ty := .boolean) hx hb hr rfl (fun t ht hW => ⟨_, rfl, hF, ht⟩) (fun q h => by cases h) dX4_holds_13
def F_X4_isTrader (z : Nat → Nat) (v : Nat → Int32) (f : Nat → Nat → Int32) (t : Int32) : Int32 :=
  if t < 0 then
    0
  else
    if nI (z 0) ≤ t then
      0
    else
      1
set_option maxHeartbeats 4000000 in
set_option maxRecDepth 100000 in
theorem c_X4_isTrader (l : Launch) (dC : Nat → ClassId) (dI : Nat → Nat → Nat) (ad : Nat → Nat) (cI cZ : ClassId) (z : Nat → Nat) (v : Nat → Int32) (f : Nat → Nat → Int32) (t : Int32) (hok : okX z v f) : Met l yX4_isTrader wsX4_isTrader ({ frames := 0, cells := 0, slots := 0, locals := 0 }) (va_Pc [.ref (ad 0), .int t] (kX dC dI ad cI cZ z v f)) (vp_Si (fun r => r = F_X4_isTrader z v f t)) 0 0 (fun _ => False) := by
  refine Met.ofW (cc := cX4_isTrader) (maxL := 2) (ret := (some .boolean)) (by decide) rfl ?_
  intro p e s m args below meth c s₁ B hml hv
  obtain ⟨rfl, hP, hK, hN⟩ := hv
  have hx := B.exec
  have hb := B.bytes
  have hr := B.returns
  have hts := atoms_spec (ws := wsX4_isTrader) B.pre
  have hown : s.vm.findClass RX4 = some m.cls := findClass_of_methodNamed B.named
  have hlocks := B.notSynchronized
  have hok9 := hok
  obtain ⟨hz0, hz1, hz2, hz3, hz4, hbz, hbs⟩ := hok9
  have hfl7 := hts (.fieldLink RX4 7 "TraderRights" "traders" "I") (List.mem_of_getElem? (i := 1) rfl)
  have hinX4 : ∀ w ∈ u_ws RX4 TX4 11, w ∈ wsX4_isTrader := fun w h => List.mem_cons_of_mem _ (List.mem_append_right _ h)
  have hl := lv_entry ([.ref (ad 0), .int t]) (n := 2) (Nat.le_of_ble_eq_true rfl)
  rw [lg_entry_eq]
  generalize (lg_sl ([.ref (ad 0), .int t]) ++ List.replicate (2 - (lg_sl ([.ref (ad 0), .int t])).length) Slot.unset).toArray = ls at hl ⊢
  have hl : lv_has ls 2 [(0, .ref (ad 0)), (1, .int t)] := hl
  generalize hF : F_X4_isTrader z v f t = R9
  generalize hQ9 : MQ below (vp_Si (fun r => r = R9)) _ s 0 0 (fun _ => False) = Q9
  rw [F_X4_isTrader] at hF
  refine lv_iload_n hx hb dX4_isTrader_0 rfl (lv_at hl 1 rfl) ?_
  refine lv_if_lt (tgt := 16) hx hb dX4_isTrader_1 (by decide) (fun c1 => ?_) (fun c1 => ?_)
  · rw [if_pos c1] at hF
    refine lv_iconst (v := 0) hx hb dX4_isTrader_16 (by decide) ?_
    subst hQ9
    exact W.zret (ty := .boolean) hx hb hr rfl (fun t ht hW => ⟨_, rfl, hF, ht⟩) (fun q h => by cases h) dX4_isTrader_17
  · rw [if_neg c1] at hF
    refine lv_iload_n hx hb dX4_isTrader_4 rfl (lv_at hl 1 rfl) ?_
    refine lv_aload_n hx hb dX4_isTrader_5 rfl (lv_at hl 0 rfl) ?_
    refine va_get (D := (dC, dI)) (ci := 4) (v := .int (nI (z 0))) (C := RX4) (T := TX4) (N := 11) hx hb hts hinX4 hown hK hP 0 rfl rfl 0 (by decide) hfl7 (fun _ h9 => h9) rfl dX4_isTrader_6 ?_
    refine lv_icmp_ge (tgt := 16) hx hb dX4_isTrader_9 (by decide) (fun c2 => ?_) (fun c2 => ?_)
    · rw [if_pos c2] at hF
      refine lv_iconst (v := 0) hx hb dX4_isTrader_16 (by decide) ?_
      subst hQ9
      exact W.zret (ty := .boolean) hx hb hr rfl (fun t ht hW => ⟨_, rfl, hF, ht⟩) (fun q h => by cases h) dX4_isTrader_17
    · rw [if_neg c2] at hF
      refine lv_iconst (v := 1) hx hb dX4_isTrader_12 (by decide) ?_
      refine lv_goto (tgt := 17) hx hb dX4_isTrader_13 (by decide) ?_
      subst hQ9
      exact W.zret (ty := .boolean) hx hb hr rfl (fun t ht hW => ⟨_, rfl, hF, ht⟩) (fun q h => by cases h) dX4_isTrader_17
theorem zB_holds (a b : Int32) : zB (F_X4_holds a b) := by
  rw [F_X4_holds]; split <;> first | exact zB_0 | exact zB_1
theorem in_of {t : Int32} {n N : Nat} (h0 : ¬ t < 0) (h1 : ¬ nI n ≤ t) (hn : n ≤ N) (hN : N < 2 ^ 31) : vp_in t N := by
  rw [vp_in_iff]
  rw [Int32.lt_iff_toInt_lt] at h0
  rw [Int32.le_iff_toInt_le, nI_toInt (by omega)] at h1
  have e0 : (0 : Int32).toInt = 0 := rfl
  omega
theorem in_isTX {z : Nat → Nat} {v : Nat → Int32} {f : Nat → Nat → Int32} {t : Int32} (hok : okX z v f) (h : ¬ F_X4_isTrader z v f t = 0) : vp_in t 12 := by
  rw [F_X4_isTrader] at h
  split at h
  · exact absurd rfl h
  · split at h
    · exact absurd rfl h
    · exact in_of (by assumption) (by assumption) hok.1 (by decide)
def F_X3_isOn_L8 (z : Nat → Nat) (v : Nat → Int32) (f : Nat → Nat → Int32) (who day : Int32)  : Nat → Int32 → Int32 → Nat → Int32
  | 0, on, gr, k => on
  | n8 + 1, on, gr, k =>
    if z 3 ≤ k then
      on
    else
      if f 14 k = who then
        if day < f 15 k then
          F_X3_isOn_L8 z v f who day n8 on gr (k + 1)
        else
          if f 15 k < gr then
            F_X3_isOn_L8 z v f who day n8 on gr (k + 1)
          else
            F_X3_isOn_L8 z v f who day n8 (f 16 k) (f 15 k) (k + 1)
      else
        F_X3_isOn_L8 z v f who day n8 on gr (k + 1)
def F_X3_isOn (z : Nat → Nat) (v : Nat → Int32) (f : Nat → Nat → Int32) (who day : Int32) : Int32 :=
  (F_X3_isOn_L8 z v f who day (z 3 + 1) 0 (-1) 0)
theorem zB_X3_isOn {z : Nat → Nat} {v : Nat → Int32} {f : Nat → Nat → Int32} (hok : okX z v f) (who day : Int32) : ∀ (n : Nat) (on gr : Int32) (k : Nat), zB on → zB (F_X3_isOn_L8 z v f who day n on gr k) := by
  obtain ⟨-, -, -, -, -, -, hbs⟩ := hok
  intro n
  induction n with
  | zero => intro on gr k h; exact h
  | succ n ih =>
    intro on gr k h
    rw [F_X3_isOn_L8]
    repeat' split
    all_goals first | assumption | exact ih _ _ _ h | exact ih _ _ _ (hbs _)
set_option maxHeartbeats 4000000 in
set_option maxRecDepth 100000 in
theorem c_X3_isOn (l : Launch) (dC : Nat → ClassId) (dI : Nat → Nat → Nat) (ad : Nat → Nat) (cI cZ : ClassId) (z : Nat → Nat) (v : Nat → Int32) (f : Nat → Nat → Int32) (who day : Int32) (hok : okX z v f) : Met l yX3_isOn wsX3_isOn ({ frames := 0, cells := 0, slots := 0, locals := 0 }) (va_Pc [.ref (ad 17), .int who, .int day] (kX dC dI ad cI cZ z v f)) (vp_Si (fun r => r = F_X3_isOn z v f who day)) 0 0 (fun _ => False) := by
  refine Met.ofW (cc := cX3_isOn) (maxL := 6) (ret := (some .boolean)) (by decide) rfl ?_
  intro p e s m args below meth c s₁ B hml hv
  obtain ⟨rfl, hP, hK, hN⟩ := hv
  have hx := B.exec
  have hb := B.bytes
  have hr := B.returns
  have hts := atoms_spec (ws := wsX3_isOn) B.pre
  have hown : s.vm.findClass RX3 = some m.cls := findClass_of_methodNamed B.named
  have hlocks := B.notSynchronized
  have hok9 := hok
  obtain ⟨hz0, hz1, hz2, hz3, hz4, hbz, hbs⟩ := hok9
  have hfl15 := hts (.fieldLink RX3 15 "TraderRights$Suspensions" "trader" "[I") (List.mem_of_getElem? (i := 2) rfl)
  have hfl19 := hts (.fieldLink RX3 19 "TraderRights$Suspensions" "from" "[I") (List.mem_of_getElem? (i := 3) rfl)
  have hfl22 := hts (.fieldLink RX3 22 "TraderRights$Suspensions" "isSuspending" "[Z") (List.mem_of_getElem? (i := 4) rfl)
  have hfl9 := hts (.fieldLink RX3 9 "TraderRights$Suspensions" "size" "I") (List.mem_of_getElem? (i := 1) rfl)
  have hinX3 : ∀ w ∈ u_ws RX3 TX3 4, w ∈ wsX3_isOn := fun w h => List.mem_cons_of_mem _ (List.mem_append_right _ h)
  have hl := lv_entry ([.ref (ad 17), .int who, .int day]) (n := 6) (Nat.le_of_ble_eq_true rfl)
  rw [lg_entry_eq]
  generalize (lg_sl ([.ref (ad 17), .int who, .int day]) ++ List.replicate (6 - (lg_sl ([.ref (ad 17), .int who, .int day])).length) Slot.unset).toArray = ls at hl ⊢
  have hl : lv_has ls 6 [(0, .ref (ad 17)), (1, .int who), (2, .int day)] := hl
  generalize hF : F_X3_isOn z v f who day = R9
  generalize hQ9 : MQ below (vp_Si (fun r => r = R9)) _ s 0 0 (fun _ => False) = Q9
  rw [F_X3_isOn] at hF
  refine lv_iconst (v := 0) hx hb dX3_isOn_0 (by decide) ?_
  refine lv_istore_n (lv' := [(3, .int 0), (0, .ref (ad 17)), (1, .int who), (2, .int day)]) hx hb dX3_isOn_1 rfl hl (by decide) rfl (fun ls hl => ?_)
  refine lv_iconst (v := (-1)) hx hb dX3_isOn_2 (by decide) ?_
  refine lv_istore (lv' := [(4, .int (-1)), (3, .int 0), (0, .ref (ad 17)), (1, .int who), (2, .int day)]) hx hb dX3_isOn_3 hl (by decide) rfl (fun ls hl => ?_)
  refine lv_iconst (v := 0) hx hb dX3_isOn_5 (by decide) ?_
  refine lv_istore (lv' := [(5, .int 0), (4, .int (-1)), (3, .int 0), (0, .ref (ad 17)), (1, .int who), (2, .int day)]) hx hb dX3_isOn_6 hl (by decide) rfl (fun ls hl => ?_)
  have lp8 : ∀ (n8 : Nat) (on : Int32) (gr : Int32) (k : Nat) (ls : Array Slot), k ≤ z 3 → z 3 < k + n8 → lv_has ls 6 [(0, .ref (ad 17)), (1, .int who), (2, .int day), (3, .int on), (4, .int gr), (5, .int (nI k))] → (∀ ls : Array Slot, lv_has ls 6 [(0, .ref (ad 17)), (1, .int who), (2, .int day), (3, .int (F_X3_isOn_L8 z v f who day n8 on gr k))] → W p l e (headSpec wsX3_isOn ({ frames := 0, cells := 0, slots := 0, locals := 0 })).room s m ([.ref (ad 17), .int who, .int day] : List Value).toArray below meth c s.heap [] 0 0 Q9 (F0 m 74 ls [])) → W p l e (headSpec wsX3_isOn ({ frames := 0, cells := 0, slots := 0, locals := 0 })).room s m ([.ref (ad 17), .int who, .int day] : List Value).toArray below meth c s.heap [] 0 0 Q9 (F0 m 8 ls []) := by
    intro n8
    induction n8 with
    | zero =>
      intro on gr k ls hk8 hn8
      exact absurd hn8 (by omega)
    | succ n8 ih8 =>
      intro on gr k ls hk8 hn8 hl hq8
      generalize hF8 : F_X3_isOn_L8 z v f who day (n8 + 1) on gr k = R8 at hq8
      rw [F_X3_isOn_L8] at hF8
      refine lv_iload hx hb dX3_isOn_8 (lv_at hl 5 rfl) ?_
      refine lv_aload_n hx hb dX3_isOn_10 rfl (lv_at hl 0 rfl) ?_
      refine va_get (D := (dC, dI)) (ci := 3) (v := .int (nI (z 3))) (C := RX3) (T := TX3) (N := 4) hx hb hts hinX3 hown hK hP 17 rfl rfl 0 (by decide) hfl9 (fun _ h9 => h9) rfl dX3_isOn_11 ?_
      refine lv_icmp_ge (tgt := 74) hx hb dX3_isOn_14 (by decide) (fun c1 => ?_) (fun c1 => ?_)
      · have c1 : z 3 ≤ k := (nI_leI (a := z 3) (b := k) (by omega) (by omega)).mp c1
        rw [if_pos c1] at hF8
        subst hF8
        exact hq8 ls (lv_sub hl [0, 1, 2, 3] rfl)
      · have c1 : ¬ z 3 ≤ k := fun h9 => c1 ((nI_leI (a := z 3) (b := k) (by omega) (by omega)).mpr h9)
        rw [if_neg c1] at hF8
        refine lv_aload_n hx hb dX3_isOn_17 rfl (lv_at hl 0 rfl) ?_
        refine va_get (D := (dC, dI)) (ci := 3) (v := .ref (ad 18)) (C := RX3) (T := TX3) (N := 4) hx hb hts hinX3 hown hK hP 17 rfl rfl 1 (by decide) hfl15 (fun _ h9 => h9) rfl dX3_isOn_18 ?_
        refine lv_iload hx hb dX3_isOn_21 (lv_at hl 5 rfl) ?_
        refine xa_ild hx hb hK hP 18 0 rfl rfl (by omega) (by decide) dX3_isOn_23 ?_
        refine lv_iload_n hx hb dX3_isOn_24 rfl (lv_at hl 1 rfl) ?_
        refine lv_icmp_ne (tgt := 68) hx hb dX3_isOn_25 (by decide) (fun c2 => ?_) (fun c2 => ?_)
        · rw [if_neg c2] at hF8
          refine lv_iinc (v := nI (k + 1)) (lv' := [(5, .int (nI (k + 1))), (0, .ref (ad 17)), (1, .int who), (2, .int day), (3, .int on), (4, .int gr)]) hx hb dX3_isOn_68 hl (k := 5) rfl (xi_inc _) (by decide) rfl (fun ls hl => ?_)
          refine lv_goto (tgt := 8) hx hb dX3_isOn_71 (by decide) ?_
          exact ih8 on gr (k + 1) ls (by omega) (by omega) (lv_sub hl [1, 2, 3, 4, 5, 0] rfl) (by rw [hF8]; exact hq8)
        · rw [if_pos c2] at hF8
          refine lv_aload_n hx hb dX3_isOn_28 rfl (lv_at hl 0 rfl) ?_
          refine va_get (D := (dC, dI)) (ci := 3) (v := .ref (ad 19)) (C := RX3) (T := TX3) (N := 4) hx hb hts hinX3 hown hK hP 17 rfl rfl 2 (by decide) hfl19 (fun _ h9 => h9) rfl dX3_isOn_29 ?_
          refine lv_iload hx hb dX3_isOn_32 (lv_at hl 5 rfl) ?_
          refine xa_ild hx hb hK hP 19 0 rfl rfl (by omega) (by decide) dX3_isOn_34 ?_
          refine lv_iload_n hx hb dX3_isOn_35 rfl (lv_at hl 2 rfl) ?_
          refine lv_icmp_gt (tgt := 68) hx hb dX3_isOn_36 (by decide) (fun c3 => ?_) (fun c3 => ?_)
          · rw [if_pos c3] at hF8
            refine lv_iinc (v := nI (k + 1)) (lv' := [(5, .int (nI (k + 1))), (0, .ref (ad 17)), (1, .int who), (2, .int day), (3, .int on), (4, .int gr)]) hx hb dX3_isOn_68 hl (k := 5) rfl (xi_inc _) (by decide) rfl (fun ls hl => ?_)
            refine lv_goto (tgt := 8) hx hb dX3_isOn_71 (by decide) ?_
            exact ih8 on gr (k + 1) ls (by omega) (by omega) (lv_sub hl [1, 2, 3, 4, 5, 0] rfl) (by rw [hF8]; exact hq8)
          · rw [if_neg c3] at hF8
            refine lv_aload_n hx hb dX3_isOn_39 rfl (lv_at hl 0 rfl) ?_
            refine va_get (D := (dC, dI)) (ci := 3) (v := .ref (ad 19)) (C := RX3) (T := TX3) (N := 4) hx hb hts hinX3 hown hK hP 17 rfl rfl 2 (by decide) hfl19 (fun _ h9 => h9) rfl dX3_isOn_40 ?_
            refine lv_iload hx hb dX3_isOn_43 (lv_at hl 5 rfl) ?_
            refine xa_ild hx hb hK hP 19 0 rfl rfl (by omega) (by decide) dX3_isOn_45 ?_
            refine lv_iload hx hb dX3_isOn_46 (lv_at hl 4 rfl) ?_
            refine lv_icmp_lt (tgt := 68) hx hb dX3_isOn_48 (by decide) (fun c4 => ?_) (fun c4 => ?_)
            · rw [if_pos c4] at hF8
              refine lv_iinc (v := nI (k + 1)) (lv' := [(5, .int (nI (k + 1))), (0, .ref (ad 17)), (1, .int who), (2, .int day), (3, .int on), (4, .int gr)]) hx hb dX3_isOn_68 hl (k := 5) rfl (xi_inc _) (by decide) rfl (fun ls hl => ?_)
              refine lv_goto (tgt := 8) hx hb dX3_isOn_71 (by decide) ?_
              exact ih8 on gr (k + 1) ls (by omega) (by omega) (lv_sub hl [1, 2, 3, 4, 5, 0] rfl) (by rw [hF8]; exact hq8)
            · rw [if_neg c4] at hF8
              refine lv_aload_n hx hb dX3_isOn_51 rfl (lv_at hl 0 rfl) ?_
              refine va_get (D := (dC, dI)) (ci := 3) (v := .ref (ad 19)) (C := RX3) (T := TX3) (N := 4) hx hb hts hinX3 hown hK hP 17 rfl rfl 2 (by decide) hfl19 (fun _ h9 => h9) rfl dX3_isOn_52 ?_
              refine lv_iload hx hb dX3_isOn_55 (lv_at hl 5 rfl) ?_
              refine xa_ild hx hb hK hP 19 0 rfl rfl (by omega) (by decide) dX3_isOn_57 ?_
              refine lv_istore (lv' := [(4, .int (f 15 k)), (0, .ref (ad 17)), (1, .int who), (2, .int day), (3, .int on), (5, .int (nI k))]) hx hb dX3_isOn_58 hl (by decide) rfl (fun ls hl => ?_)
              refine lv_aload_n hx hb dX3_isOn_60 rfl (lv_at hl 1 rfl) ?_
              refine va_get (D := (dC, dI)) (ci := 3) (v := .ref (ad 20)) (C := RX3) (T := TX3) (N := 4) hx hb hts hinX3 hown hK hP 17 rfl rfl 3 (by decide) hfl22 (fun _ h9 => h9) rfl dX3_isOn_61 ?_
              refine lv_iload hx hb dX3_isOn_64 (lv_at hl 5 rfl) ?_
              refine xa_zld hx hb hK hP 20 1 rfl rfl (by omega) (by decide) dX3_isOn_66 ?_
              refine lv_istore_n (lv' := [(3, .int (f 16 k)), (4, .int (f 15 k)), (0, .ref (ad 17)), (1, .int who), (2, .int day), (5, .int (nI k))]) hx hb dX3_isOn_67 rfl hl (by decide) rfl (fun ls hl => ?_)
              refine lv_iinc (v := nI (k + 1)) (lv' := [(5, .int (nI (k + 1))), (3, .int (f 16 k)), (4, .int (f 15 k)), (0, .ref (ad 17)), (1, .int who), (2, .int day)]) hx hb dX3_isOn_68 hl (k := 5) rfl (xi_inc _) (by decide) rfl (fun ls hl => ?_)
              refine lv_goto (tgt := 8) hx hb dX3_isOn_71 (by decide) ?_
              exact ih8 (f 16 k) (f 15 k) (k + 1) ls (by omega) (by omega) (lv_sub hl [3, 4, 5, 1, 2, 0] rfl) (by rw [hF8]; exact hq8)
  refine lp8 (z 3 + 1) 0 (-1) 0 ls (by omega) (by omega) (lv_sub hl [3, 4, 5, 2, 1, 0] rfl) (fun ls hl => ?_)
  obtain ⟨r5, hr5⟩ : ∃ y, y = (F_X3_isOn_L8 z v f who day (z 3 + 1) 0 (-1) 0) := ⟨_, rfl⟩
  rw [← hr5] at hl
  try rw [← hr5] at hF
  refine lv_iload_n hx hb dX3_isOn_74 rfl (lv_at hl 3 rfl) ?_
  subst hQ9
  exact W.zret (ty := .boolean) hx hb hr (by rw [hr5]; exact (zB_X3_isOn hok _ _ _ _ _ _ zB_0)) (fun t ht hW => ⟨_, rfl, hF, ht⟩) (fun q h => by cases h) dX3_isOn_75
