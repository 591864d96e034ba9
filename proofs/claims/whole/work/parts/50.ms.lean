theorem pw_inc {q : Int32} {i n : Nat} (hq : q.toInt ≤ 5) (h : i ≤ 6 ∧ 6 < i + (n + 1)) (c : ¬ q ≤ nI i) : i + 1 ≤ 6 ∧ 6 < i + 1 + n := by
  rw [Int32.le_iff_toInt_le, nI_toInt (by omega)] at c
  omega
def F_X5_thrown (th : Int32) (z : Nat → Nat) (v : Nat → Int32) (f : Nat → Nat → Int32)  : Int32 :=
  th
set_option maxHeartbeats 4000000 in
set_option maxRecDepth 100000 in
theorem c_X5_thrown (l : Launch) (dC : Nat → ClassId) (dI : Nat → Nat → Nat) (am : Nat → Nat) (cI cZ : ClassId) (th : Int32) (z : Nat → Nat) (v : Nat → Int32) (f : Nat → Nat → Int32) (hok : okM z v f) : Met l yX5_thrown wsX5_thrown ({ frames := 0, cells := 0, slots := 0, locals := 0 }) (va_Pc [.ref (am 0)] (kM dC dI am cI cZ th z v f)) (vp_Si (fun r => r = F_X5_thrown th z v f )) 0 0 (fun _ => False) := by
  refine Met.ofW (cc := cX5_thrown) (maxL := 1) (ret := (some .int)) (by decide) rfl ?_
  intro p e s m args below meth c s₁ B hml hv
  obtain ⟨rfl, hP, hK, hN⟩ := hv
  have hx := B.exec
  have hb := B.bytes
  have hr := B.returns
  have hts := atoms_spec (ws := wsX5_thrown) B.pre
  have hown : s.vm.findClass RX5 = some m.cls := findClass_of_methodNamed B.named
  have hlocks := B.notSynchronized
  have hok9 := hok
  obtain ⟨hz0, hz1, hz2, hz3, hz4, hbz, hbs, hdp, hgv⟩ := hok9
  have hfl66 := hts (.fieldLink RX5 66 "TraderRightsModel" "thrown" "I") (List.mem_of_getElem? (i := 1) rfl)
  have hinX5 : ∀ w ∈ u_ws RX5 TX5 25, w ∈ wsX5_thrown := fun w h => List.mem_cons_of_mem _ (List.mem_append_right _ h)
  have hl := lv_entry ([.ref (am 0)]) (n := 1) (Nat.le_of_ble_eq_true rfl)
  rw [lg_entry_eq]
  generalize (lg_sl ([.ref (am 0)]) ++ List.replicate (1 - (lg_sl ([.ref (am 0)])).length) Slot.unset).toArray = ls at hl ⊢
  have hl : lv_has ls 1 [(0, .ref (am 0))] := hl
  generalize hF : F_X5_thrown th z v f  = R9
  generalize hQ9 : MQ below (vp_Si (fun r => r = R9)) _ s 0 0 (fun _ => False) = Q9
  rw [F_X5_thrown] at hF
  refine lv_aload_n hx hb dX5_thrown_0 rfl (lv_at hl 0 rfl) ?_
  refine va_get (D := (dC, dI)) (ci := 5) (v := .int th) (C := RX5) (T := TX5) (N := 25) hx hb hts hinX5 hown hK hP 0 rfl rfl 0 (by decide) hfl66 (fun _ h9 => h9) rfl dX5_thrown_1 ?_
  subst hQ9
  exact W.iret hx hb hr (fun t ht hW => ⟨_, rfl, hF, ht⟩) (fun q h => by cases h) dX5_thrown_4
def F_X5_power_L4 (q : Int32)  : Nat → Int32 → Nat → Int32
  | 0, pv, i => pv
  | n4 + 1, pv, i =>
    if q ≤ nI i then
      pv
    else
      F_X5_power_L4 q n4 (pv * 26) (i + 1)
def F_X5_power (q : Int32) : Int32 :=
  (F_X5_power_L4 q 7 1 0)
set_option maxHeartbeats 4000000 in
set_option maxRecDepth 100000 in
theorem c_X5_power (l : Launch) (q : Int32) (hq : q.toInt ≤ 5) : Met l yX5_power wsX5_power ({ frames := 0, cells := 0, slots := 0, locals := 0 }) (va_Pc [.int q] (fun _ => True)) (vp_Si (fun r => r = F_X5_power q)) 0 0 (fun _ => False) := by
  refine Met.ofW (cc := cX5_power) (maxL := 3) (ret := (some .int)) (by decide) rfl ?_
  intro p e s m args below meth c s₁ B hml hv
  obtain ⟨rfl, -⟩ := hv
  have hx := B.exec
  have hb := B.bytes
  have hr := B.returns
  have hts := atoms_spec (ws := wsX5_power) B.pre
  have hown : s.vm.findClass RX5 = some m.cls := findClass_of_methodNamed B.named
  have hlocks := B.notSynchronized
  have hl := lv_entry ([.int q]) (n := 3) (Nat.le_of_ble_eq_true rfl)
  rw [lg_entry_eq]
  generalize (lg_sl ([.int q]) ++ List.replicate (3 - (lg_sl ([.int q])).length) Slot.unset).toArray = ls at hl ⊢
  have hl : lv_has ls 3 [(0, .int q)] := hl
  generalize hF : F_X5_power q = R9
  generalize hQ9 : MQ below (vp_Si (fun r => r = R9)) _ s 0 0 (fun _ => False) = Q9
  rw [F_X5_power] at hF
  refine lv_iconst (v := 1) hx hb dX5_power_0 (by decide) ?_
  refine lv_istore_n (lv' := [(1, .int 1), (0, .int q)]) hx hb dX5_power_1 rfl hl (by decide) rfl (fun ls hl => ?_)
  refine lv_iconst (v := 0) hx hb dX5_power_2 (by decide) ?_
  refine lv_istore_n (lv' := [(2, .int 0), (1, .int 1), (0, .int q)]) hx hb dX5_power_3 rfl hl (by decide) rfl (fun ls hl => ?_)
  have lp4 : ∀ (n4 : Nat) (pv : Int32) (i : Nat) (ls : Array Slot), i ≤ 6 ∧ 6 < i + n4 → lv_has ls 3 [(0, .int q), (1, .int pv), (2, .int (nI i))] → (∀ ls : Array Slot, lv_has ls 3 [(0, .int q), (1, .int (F_X5_power_L4 q n4 pv i))] → W p l e (headSpec wsX5_power ({ frames := 0, cells := 0, slots := 0, locals := 0 })).room s m ([.int q] : List Value).toArray below meth c s.heap [] 0 0 Q9 (F0 m 20 ls [])) → W p l e (headSpec wsX5_power ({ frames := 0, cells := 0, slots := 0, locals := 0 })).room s m ([.int q] : List Value).toArray below meth c s.heap [] 0 0 Q9 (F0 m 4 ls []) := by
    intro n4
    induction n4 with
    | zero =>
      intro pv i ls hm4
      exact absurd hm4.2 (by have := hm4.1; omega)
    | succ n4 ih4 =>
      intro pv i ls hm4 hl hq4
      generalize hF4 : F_X5_power_L4 q (n4 + 1) pv i = R4 at hq4
      rw [F_X5_power_L4] at hF4
      refine lv_iload_n hx hb dX5_power_4 rfl (lv_at hl 2 rfl) ?_
      refine lv_iload_n hx hb dX5_power_5 rfl (lv_at hl 0 rfl) ?_
      refine lv_icmp_ge (tgt := 20) hx hb dX5_power_6 (by decide) (fun c1 => ?_) (fun c1 => ?_)
      · rw [if_pos c1] at hF4
        subst hF4
        exact hq4 ls (lv_sub hl [0, 1] rfl)
      · rw [if_neg c1] at hF4
        refine lv_iload_n hx hb dX5_power_9 rfl (lv_at hl 1 rfl) ?_
        refine lv_bipush (v := 26) hx hb dX5_power_10 (by decide) ?_
        refine lv_imul hx hb dX5_power_12 ?_
        refine lv_istore_n (lv' := [(1, .int (pv * 26)), (0, .int q), (2, .int (nI i))]) hx hb dX5_power_13 rfl hl (by decide) rfl (fun ls hl => ?_)
        refine lv_iinc (v := nI (i + 1)) (lv' := [(2, .int (nI (i + 1))), (1, .int (pv * 26)), (0, .int q)]) hx hb dX5_power_14 hl (k := 2) rfl (xi_inc _) (by decide) rfl (fun ls hl => ?_)
        refine lv_goto (tgt := 4) hx hb dX5_power_17 (by decide) ?_
        exact ih4 (pv * 26) (i + 1) ls (pw_inc hq hm4 c1) (lv_sub hl [2, 1, 0] rfl) (by rw [hF4]; exact hq4)
  refine lp4 7 1 0 ls ⟨by omega, by omega⟩ (lv_sub hl [2, 1, 0] rfl) (fun ls hl => ?_)
  obtain ⟨r2, hr2⟩ : ∃ y, y = (F_X5_power_L4 q 7 1 0) := ⟨_, rfl⟩
  rw [← hr2] at hl
  try rw [← hr2] at hF
  refine lv_iload_n hx hb dX5_power_20 rfl (lv_at hl 1 rfl) ?_
  subst hQ9
  exact W.iret hx hb hr (fun t ht hW => ⟨_, rfl, hF, ht⟩) (fun q h => by cases h) dX5_power_21
def F_X5_digit (n i : Int32) : Int32 :=
  (n / (F_X5_power (5 - i))) - (n / (F_X5_power (5 - i))) / 26 * 26
theorem pw_i {i : Int32} (hi : 0 ≤ i.toInt ∧ i.toInt ≤ 5) : ∃ j : Nat, j ≤ 5 ∧ i = nI j := by
  have h := vp_in_of (x := i) (n := 6) (vp_in_iff.mpr (by omega)) (by decide)
  obtain ⟨j, hj, e⟩ := h
  exact ⟨j, by omega, e⟩
theorem pw_le {i : Int32} (hi : 0 ≤ i.toInt ∧ i.toInt ≤ 5) : (5 - i).toInt ≤ 5 := by
  obtain ⟨j, hj, rfl⟩ := pw_i hi
  rcases (show j = 0 ∨ j = 1 ∨ j = 2 ∨ j = 3 ∨ j = 4 ∨ j = 5 by omega) with rfl | rfl | rfl | rfl | rfl | rfl <;> decide
theorem pw_ne {i : Int32} (hi : 0 ≤ i.toInt ∧ i.toInt ≤ 5) : ¬ F_X5_power (5 - i) = 0 := by
  obtain ⟨j, hj, rfl⟩ := pw_i hi
  rcases (show j = 0 ∨ j = 1 ∨ j = 2 ∨ j = 3 ∨ j = 4 ∨ j = 5 by omega) with rfl | rfl | rfl | rfl | rfl | rfl <;> decide
set_option maxHeartbeats 4000000 in
set_option maxRecDepth 100000 in
theorem c_X5_digit (l : Launch) (n i : Int32) (hi : 0 ≤ i.toInt ∧ i.toInt ≤ 5) : Met l yX5_digit wsX5_digit ({ frames := 1, cells := 0, slots := 0, locals := 22 }) (va_Pc [.int n, .int i] (fun _ => True)) (vp_Si (fun r => r = F_X5_digit n i)) 0 0 (fun _ => False) := by
  refine Met.ofW (cc := cX5_digit) (maxL := 2) (ret := (some .int)) (by decide) rfl ?_
  intro p e s m args below meth c s₁ B hml hv
  obtain ⟨rfl, -⟩ := hv
  have hx := B.exec
  have hb := B.bytes
  have hr := B.returns
  have hts := atoms_spec (ws := wsX5_digit) B.pre
  have hown : s.vm.findClass RX5 = some m.cls := findClass_of_methodNamed B.named
  have hlocks := B.notSynchronized
  have hl := lv_entry ([.int n, .int i]) (n := 2) (Nat.le_of_ble_eq_true rfl)
  rw [lg_entry_eq]
  generalize (lg_sl ([.int n, .int i]) ++ List.replicate (2 - (lg_sl ([.int n, .int i])).length) Slot.unset).toArray = ls at hl ⊢
  have hl : lv_has ls 2 [(0, .int n), (1, .int i)] := hl
  generalize hF : F_X5_digit n i = R9
  generalize hQ9 : MQ below (vp_Si (fun r => r = R9)) _ s 0 0 (fun _ => False) = Q9
  rw [F_X5_digit] at hF
  refine lv_iload_n hx hb dX5_digit_0 rfl (lv_at hl 0 rfl) ?_
  refine lv_iconst (v := 5) hx hb dX5_digit_1 (by decide) ?_
  refine lv_iload_n hx hb dX5_digit_2 rfl (lv_at hl 1 rfl) ?_
  refine lv_isub hx hb dX5_digit_3 ?_
  refine vp_callSi (W.runS (As := [.int (5 - i)]) (rest := [.int n]) ⟨hx, hb, hml, hown, hts⟩ (c_X5_power l (5 - i) (pw_le hi)) (cwS 1 hts gX5_digit_X5_power rfl rfl rfl (by decide +kernel) ⟨Nat.le_of_ble_eq_true rfl, Nat.le_of_ble_eq_true rfl⟩) preT rfl rfl hl.1 rfl (lv_room (Nat.le_of_ble_eq_true rfl)) dX5_digit_4 ⟨Nat.zero_le _, Nat.zero_le _⟩) (fun r1 h9 => ?_)
  have hr1 : r1 = F_X5_power (5 - i) := h9
  try rw [← hr1] at hF
  refine lv_idiv hx hb dX5_digit_7 (by rw [hr1]; exact pw_ne hi) ?_
  refine lv_bipush (v := 26) hx hb dX5_digit_8 (by decide) ?_
  refine lv_irem hx hb dX5_digit_10 (by decide) ?_
  subst hQ9
  exact W.iret hx hb hr (fun t ht hW => ⟨_, rfl, hF, ht⟩) (fun q h => by cases h) dX5_digit_11
def F_X5_certified (z : Nat → Nat) (v : Nat → Int32) (f : Nat → Nat → Int32)  : Int32 × Int32 × (Nat → Nat) × (Nat → Int32) × (Nat → Nat → Int32) :=
  (v 2, 0, z, v, f)
set_option maxHeartbeats 4000000 in
set_option maxRecDepth 100000 in
theorem c_X5_certified (l : Launch) (dC : Nat → ClassId) (dI : Nat → Nat → Nat) (am : Nat → Nat) (cI cZ : ClassId) (th : Int32) (z : Nat → Nat) (v : Nat → Int32) (f : Nat → Nat → Int32) (sz : Nat) (hok : okM z v f) : Met l yX5_certified wsX5_certified ({ frames := 0, cells := 0, slots := 0, locals := 0 }) (va_Pc [.ref (am 0)] (fun U => U.heap.size = sz ∧ va_D (fun _ => True) (wM am cI cZ th z v f) ∧ kM dC dI am cI cZ th z v f U)) (va_Qi (fun (r : Int32) (_ : Unit) => r = (F_X5_certified z v f ).1) (fun _ U9 => va_P (dC, dI) vwCl (wM am cI cZ ((F_X5_certified z v f ).2.1) ((F_X5_certified z v f ).2.2.1) ((F_X5_certified z v f ).2.2.2.1) ((F_X5_certified z v f ).2.2.2.2)) U9.heap) (va_A (wM am cI cZ th z v f) sz)) 0 0 (va_A (wM am cI cZ th z v f) sz) := by
  refine Met.ofW (cc := cX5_certified) (maxL := 1) (ret := (some .int)) (by decide) rfl ?_
  intro p e s m args below meth c s₁ B hml hv
  obtain ⟨rfl, hsz, hD0, hP, hK, hN⟩ := hv
  have hx := B.exec
  have hb := B.bytes
  have hr := B.returns
  have hts := atoms_spec (ws := wsX5_certified) B.pre
  have hown : s.vm.findClass RX5 = some m.cls := findClass_of_methodNamed B.named
  have hlocks := B.notSynchronized
  have hok9 := hok
  obtain ⟨hz0, hz1, hz2, hz3, hz4, hbz, hbs, hdp, hgv⟩ := hok9
  have hfl62 := hts (.fieldLink RX5 62 "TraderRightsModel" "certified" "I") (List.mem_of_getElem? (i := 2) rfl)
  have hfl66 := hts (.fieldLink RX5 66 "TraderRightsModel" "thrown" "I") (List.mem_of_getElem? (i := 1) rfl)
  have hinX5 : ∀ w ∈ u_ws RX5 TX5 25, w ∈ wsX5_certified := fun w h => List.mem_cons_of_mem _ (List.mem_append_right _ h)
  subst hsz
  have hD := hD0.self (sz := s.heap.size)
  generalize hAe : va_A (wM am cI cZ th z v f) s.heap.size = A at hD ⊢
  have hA : ∀ q : Nat, s.heap.size ≤ q → A q := fun q h => by rw [← hAe]; exact Or.inr h
  have hS : va_S A s.heap s.heap [] := va_S.rf
  have hl := lv_entry ([.ref (am 0)]) (n := 1) (Nat.le_of_ble_eq_true rfl)
  rw [lg_entry_eq]
  generalize (lg_sl ([.ref (am 0)]) ++ List.replicate (1 - (lg_sl ([.ref (am 0)])).length) Slot.unset).toArray = ls at hl ⊢
  have hl : lv_has ls 1 [(0, .ref (am 0))] := hl
  generalize hF : F_X5_certified z v f  = R9
  generalize hQ9 : MQ below _ _ s 0 0 A = Q9
  rw [F_X5_certified] at hF
  refine lv_aload_n hx hb dX5_certified_0 rfl (lv_at hl 0 rfl) ?_
  refine lv_iconst (v := 0) hx hb dX5_certified_1 (by decide) ?_
  refine va_put (D := (dC, dI)) (ci := 5) (v := .int 0) (ty := .int) (C := RX5) (T := TX5) (N := 25) hx hb hts hinX5 tyX5 tyX5_ok nmX5 hown hK hP hD hS 0 rfl rfl 0 (by decide) hfl66 (fun _ h9 => h9) rfl (by decide +kernel) rfl rfl (Nat.le_of_ble_eq_true rfl) dX5_certified_2 (fun H locs hP hD hS => ?_)
  have hP : va_P (dC, dI) vwCl (wM am cI cZ 0 z v f) H := hP
  have hD : va_D A (wM am cI cZ 0 z v f) := hD
  refine lv_aload_n hx hb dX5_certified_5 rfl (lv_at hl 0 rfl) ?_
  refine va_get (D := (dC, dI)) (ci := 5) (v := .int (v 2)) (C := RX5) (T := TX5) (N := 25) hx hb hts hinX5 hown hK hP 0 rfl rfl 24 (by decide) hfl62 (fun _ h9 => h9) rfl dX5_certified_6 ?_
  subst hF
  subst hQ9
  exact W.iret (v := v 2) hx hb hr (fun t9 ht hW => ⟨⟨(v 2), (), rfl, rfl, by show va_P (dC, dI) vwCl _ t9.heap; rw [ht]; exact hP⟩, hS.F ht⟩) hS.2.2 dX5_certified_9
def F_X5_may (z : Nat → Nat) (v : Nat → Int32) (f : Nat → Nat → Int32) (t a pl day : Int32) : Int32 × Int32 × (Nat → Nat) × (Nat → Int32) × (Nat → Nat → Int32) :=
  (F_X5_answer z v f t a pl day, 0, z, v, f)
set_option maxHeartbeats 4000000 in
set_option maxRecDepth 100000 in
theorem c_X5_may (l : Launch) (dC : Nat → ClassId) (dI : Nat → Nat → Nat) (am : Nat → Nat) (cI cZ : ClassId) (th : Int32) (z : Nat → Nat) (v : Nat → Int32) (f : Nat → Nat → Int32) (sz : Nat) (t a pl day : Int32) (hok : okM z v f) : Met l yX5_may wsX5_may ({ frames := 6, cells := 0, slots := 0, locals := 155 }) (va_Pc [.ref (am 0), .int t, .int a, .int pl, .int day] (fun U => U.heap.size = sz ∧ va_D (fun _ => True) (wM am cI cZ th z v f) ∧ kM dC dI am cI cZ th z v f U)) (va_Qi (fun (r : Int32) (_ : Unit) => r = (F_X5_may z v f t a pl day).1) (fun _ U9 => va_P (dC, dI) vwCl (wM am cI cZ ((F_X5_may z v f t a pl day).2.1) ((F_X5_may z v f t a pl day).2.2.1) ((F_X5_may z v f t a pl day).2.2.2.1) ((F_X5_may z v f t a pl day).2.2.2.2)) U9.heap) (va_A (wM am cI cZ th z v f) sz)) 0 0 (va_A (wM am cI cZ th z v f) sz) := by
  refine Met.ofW (cc := cX5_may) (maxL := 5) (ret := (some .int)) (by decide) rfl ?_
  intro p e s m args below meth c s₁ B hml hv
  obtain ⟨rfl, hsz, hD0, hP, hK, hN⟩ := hv
  have hx := B.exec
  have hb := B.bytes
  have hr := B.returns
  have hts := atoms_spec (ws := wsX5_may) B.pre
  have hown : s.vm.findClass RX5 = some m.cls := findClass_of_methodNamed B.named
  have hlocks := B.notSynchronized
  have hok9 := hok
  obtain ⟨hz0, hz1, hz2, hz3, hz4, hbz, hbs, hdp, hgv⟩ := hok9
  have hfl66 := hts (.fieldLink RX5 66 "TraderRightsModel" "thrown" "I") (List.mem_of_getElem? (i := 1) rfl)
  have hinX5 : ∀ w ∈ u_ws RX5 TX5 25, w ∈ wsX5_may := fun w h => List.mem_cons_of_mem _ (List.mem_append_right _ h)
  subst hsz
  have hD := hD0.self (sz := s.heap.size)
  generalize hAe : va_A (wM am cI cZ th z v f) s.heap.size = A at hD ⊢
  have hA : ∀ q : Nat, s.heap.size ≤ q → A q := fun q h => by rw [← hAe]; exact Or.inr h
  have hS : va_S A s.heap s.heap [] := va_S.rf
  have hl := lv_entry ([.ref (am 0), .int t, .int a, .int pl, .int day]) (n := 5) (Nat.le_of_ble_eq_true rfl)
  rw [lg_entry_eq]
  generalize (lg_sl ([.ref (am 0), .int t, .int a, .int pl, .int day]) ++ List.replicate (5 - (lg_sl ([.ref (am 0), .int t, .int a, .int pl, .int day])).length) Slot.unset).toArray = ls at hl ⊢
  have hl : lv_has ls 5 [(0, .ref (am 0)), (1, .int t), (2, .int a), (3, .int pl), (4, .int day)] := hl
  generalize hF : F_X5_may z v f t a pl day = R9
  generalize hQ9 : MQ below _ _ s 0 0 A = Q9
  rw [F_X5_may] at hF
  refine lv_aload_n hx hb dX5_may_0 rfl (lv_at hl 0 rfl) ?_
  refine lv_iconst (v := 0) hx hb dX5_may_1 (by decide) ?_
  refine va_put (D := (dC, dI)) (ci := 5) (v := .int 0) (ty := .int) (C := RX5) (T := TX5) (N := 25) hx hb hts hinX5 tyX5 tyX5_ok nmX5 hown hK hP hD hS 0 rfl rfl 0 (by decide) hfl66 (fun _ h9 => h9) rfl (by decide +kernel) rfl rfl (Nat.le_of_ble_eq_true rfl) dX5_may_2 (fun H locs hP hD hS => ?_)
  have hP : va_P (dC, dI) vwCl (wM am cI cZ 0 z v f) H := hP
  have hD : va_D A (wM am cI cZ 0 z v f) := hD
  refine lv_aload_n hx hb dX5_may_5 rfl (lv_at hl 0 rfl) ?_
  refine lv_iload_n hx hb dX5_may_6 rfl (lv_at hl 1 rfl) ?_
  refine lv_iload_n hx hb dX5_may_7 rfl (lv_at hl 2 rfl) ?_
  refine lv_iload_n hx hb dX5_may_8 rfl (lv_at hl 3 rfl) ?_
  refine lv_iload hx hb dX5_may_9 (lv_at hl 4 rfl) ?_
  refine vp_callSi (W.runV (As := [.int t, .int a, .int pl, .int day]) (rest := []) ⟨hx, hb, hml, hown, hts⟩ (c_X5_answer l dC dI am cI cZ 0 z v f t a pl day hok) (cwV 4 hts gX5_may_X5_answer rfl rfl rfl (by decide +kernel) ⟨Nat.le_of_ble_eq_true rfl, Nat.le_of_ble_eq_true rfl⟩) (preM (ci := 5) (q0 := 0) hP hK hN rfl rfl rfl) rfl rfl hl.1 rfl (lv_room (Nat.le_of_ble_eq_true rfl)) dX5_may_11 ⟨Nat.zero_le _, Nat.zero_le _⟩) (fun r1 h9 => ?_)
  have hr1 : r1 = F_X5_answer z v f t a pl day := h9
  try rw [← hr1] at hF
  subst hF
  subst hQ9
  exact W.iret (v := r1) hx hb hr (fun t9 ht hW => ⟨⟨r1, (), rfl, rfl, by show va_P (dC, dI) vwCl _ t9.heap; rw [ht]; exact hP⟩, hS.F ht⟩) hS.2.2 dX5_may_14
theorem in_ansM {z : Nat → Nat} {v : Nat → Int32} {f : Nat → Nat → Int32} {t a pl day : Int32} (hok : okM z v f) (h : F_X5_answer z v f t a pl day ≤ 0) : vp_in t 12 := by
  rw [F_X5_answer] at h
  split at h
  · exact absurd h (by decide)
  · exact in_isTM hok (by assumption)
def F_X5_done (z : Nat → Nat) (v : Nat → Int32) (f : Nat → Nat → Int32) (a pl day t u : Int32) : Int32 × Int32 × (Nat → Nat) × (Nat → Int32) × (Nat → Nat → Int32) :=
  if F_X5_answer z v f t a pl day ≤ 0 then
    if (((v 1) >>> (a &&& 31)) &&& 1) = 0 then
      (0, 0, z, v, f)
    else
      if F_X5_answer z v f u a pl day ≤ 0 then
        if t = u then
          (3, 0, z, v, f)
        else
          if f 2 t.toNatClampNeg = u then
            (3, 0, z, v, f)
          else
            if f 2 u.toNatClampNeg = t then
              (3, 0, z, v, f)
            else
              (0, 0, z, v, f)
      else
        (2, 0, z, v, f)
  else
    (1, 0, z, v, f)
set_option maxHeartbeats 4000000 in
set_option maxRecDepth 100000 in
theorem c_X5_done (l : Launch) (dC : Nat → ClassId) (dI : Nat → Nat → Nat) (am : Nat → Nat) (cI cZ : ClassId) (th : Int32) (z : Nat → Nat) (v : Nat → Int32) (f : Nat → Nat → Int32) (sz : Nat) (a pl day t u : Int32) (hok : okM z v f) : Met l yX5_done wsX5_done ({ frames := 6, cells := 0, slots := 0, locals := 155 }) (va_Pc [.ref (am 0), .int a, .int pl, .int day, .int t, .int u] (fun U => U.heap.size = sz ∧ va_D (fun _ => True) (wM am cI cZ th z v f) ∧ kM dC dI am cI cZ th z v f U)) (va_Qi (fun (r : Int32) (_ : Unit) => r = (F_X5_done z v f a pl day t u).1) (fun _ U9 => va_P (dC, dI) vwCl (wM am cI cZ ((F_X5_done z v f a pl day t u).2.1) ((F_X5_done z v f a pl day t u).2.2.1) ((F_X5_done z v f a pl day t u).2.2.2.1) ((F_X5_done z v f a pl day t u).2.2.2.2)) U9.heap) (va_A (wM am cI cZ th z v f) sz)) 0 0 (va_A (wM am cI cZ th z v f) sz) := by
  refine Met.ofW (cc := cX5_done) (maxL := 6) (ret := (some .int)) (by decide) rfl ?_
  intro p e s m args below meth c s₁ B hml hv
  obtain ⟨rfl, hsz, hD0, hP, hK, hN⟩ := hv
  have hx := B.exec
  have hb := B.bytes
  have hr := B.returns
  have hts := atoms_spec (ws := wsX5_done) B.pre
  have hown : s.vm.findClass RX5 = some m.cls := findClass_of_methodNamed B.named
  have hlocks := B.notSynchronized
  have hok9 := hok
  obtain ⟨hz0, hz1, hz2, hz3, hz4, hbz, hbs, hdp, hgv⟩ := hok9
  have hfl135 := hts (.fieldLink RX5 135 "TraderRightsModel" "twos" "I") (List.mem_of_getElem? (i := 2) rfl)
  have hfl16 := hts (.fieldLink RX5 16 "TraderRightsModel" "deputyOf" "[I") (List.mem_of_getElem? (i := 3) rfl)
  have hfl66 := hts (.fieldLink RX5 66 "TraderRightsModel" "thrown" "I") (List.mem_of_getElem? (i := 1) rfl)
  have hinX5 : ∀ w ∈ u_ws RX5 TX5 25, w ∈ wsX5_done := fun w h => List.mem_cons_of_mem _ (List.mem_append_right _ h)
  subst hsz
  have hD := hD0.self (sz := s.heap.size)
  generalize hAe : va_A (wM am cI cZ th z v f) s.heap.size = A at hD ⊢
  have hA : ∀ q : Nat, s.heap.size ≤ q → A q := fun q h => by rw [← hAe]; exact Or.inr h
  have hS : va_S A s.heap s.heap [] := va_S.rf
  have hl := lv_entry ([.ref (am 0), .int a, .int pl, .int day, .int t, .int u]) (n := 6) (Nat.le_of_ble_eq_true rfl)
  rw [lg_entry_eq]
  generalize (lg_sl ([.ref (am 0), .int a, .int pl, .int day, .int t, .int u]) ++ List.replicate (6 - (lg_sl ([.ref (am 0), .int a, .int pl, .int day, .int t, .int u])).length) Slot.unset).toArray = ls at hl ⊢
  have hl : lv_has ls 6 [(0, .ref (am 0)), (1, .int a), (2, .int pl), (3, .int day), (4, .int t), (5, .int u)] := hl
  generalize hF : F_X5_done z v f a pl day t u = R9
  generalize hQ9 : MQ below _ _ s 0 0 A = Q9
  rw [F_X5_done] at hF
  refine lv_aload_n hx hb dX5_done_0 rfl (lv_at hl 0 rfl) ?_
  refine lv_iconst (v := 0) hx hb dX5_done_1 (by decide) ?_
  refine va_put (D := (dC, dI)) (ci := 5) (v := .int 0) (ty := .int) (C := RX5) (T := TX5) (N := 25) hx hb hts hinX5 tyX5 tyX5_ok nmX5 hown hK hP hD hS 0 rfl rfl 0 (by decide) hfl66 (fun _ h9 => h9) rfl (by decide +kernel) rfl rfl (Nat.le_of_ble_eq_true rfl) dX5_done_2 (fun H locs hP hD hS => ?_)
  have hP : va_P (dC, dI) vwCl (wM am cI cZ 0 z v f) H := hP
  have hD : va_D A (wM am cI cZ 0 z v f) := hD
  refine lv_aload_n hx hb dX5_done_5 rfl (lv_at hl 0 rfl) ?_
  refine lv_iload hx hb dX5_done_6 (lv_at hl 4 rfl) ?_
  refine lv_iload_n hx hb dX5_done_8 rfl (lv_at hl 1 rfl) ?_
  refine lv_iload_n hx hb dX5_done_9 rfl (lv_at hl 2 rfl) ?_
  refine lv_iload_n hx hb dX5_done_10 rfl (lv_at hl 3 rfl) ?_
  refine vp_callSi (W.runV (As := [.int t, .int a, .int pl, .int day]) (rest := []) ⟨hx, hb, hml, hown, hts⟩ (c_X5_answer l dC dI am cI cZ 0 z v f t a pl day hok) (cwV 4 hts gX5_done_X5_answer rfl rfl rfl (by decide +kernel) ⟨Nat.le_of_ble_eq_true rfl, Nat.le_of_ble_eq_true rfl⟩) (preM (ci := 5) (q0 := 0) hP hK hN rfl rfl rfl) rfl rfl hl.1 rfl (lv_room (Nat.le_of_ble_eq_true rfl)) dX5_done_11 ⟨Nat.zero_le _, Nat.zero_le _⟩) (fun r1 h9 => ?_)
  have hr1 : r1 = F_X5_answer z v f t a pl day := h9
  try rw [← hr1] at hF
  refine lv_if_le (tgt := 19) hx hb dX5_done_14 (by decide) (fun c2 => ?_) (fun c2 => ?_)
  · rw [if_pos c2] at hF
    have c2f : F_X5_answer z v f t a pl day ≤ 0 := by rw [← hr1]; exact c2
    refine lv_aload_n hx hb dX5_done_19 rfl (lv_at hl 0 rfl) ?_
    refine va_get (D := (dC, dI)) (ci := 5) (v := .int (v 1)) (C := RX5) (T := TX5) (N := 25) hx hb hts hinX5 hown hK hP 0 rfl rfl 5 (by decide) hfl135 (fun _ h9 => h9) rfl dX5_done_20 ?_
    refine lv_iload_n hx hb dX5_done_23 rfl (lv_at hl 1 rfl) ?_
    refine lv_ishr hx hb dX5_done_24 ?_
    refine lv_iconst (v := 1) hx hb dX5_done_25 (by decide) ?_
    refine lv_iand hx hb dX5_done_26 ?_
    refine lv_if_ne (tgt := 32) hx hb dX5_done_27 (by decide) (fun c3 => ?_) (fun c3 => ?_)
    · rw [if_neg c3] at hF
      refine lv_aload_n hx hb dX5_done_32 rfl (lv_at hl 0 rfl) ?_
      refine lv_iload hx hb dX5_done_33 (lv_at hl 5 rfl) ?_
      refine lv_iload_n hx hb dX5_done_35 rfl (lv_at hl 1 rfl) ?_
      refine lv_iload_n hx hb dX5_done_36 rfl (lv_at hl 2 rfl) ?_
      refine lv_iload_n hx hb dX5_done_37 rfl (lv_at hl 3 rfl) ?_
      refine vp_callSi (W.runV (As := [.int u, .int a, .int pl, .int day]) (rest := []) ⟨hx, hb, hml, hown, hts⟩ (c_X5_answer l dC dI am cI cZ 0 z v f u a pl day hok) (cwV 4 hts gX5_done_X5_answer rfl rfl rfl (by decide +kernel) ⟨Nat.le_of_ble_eq_true rfl, Nat.le_of_ble_eq_true rfl⟩) (preM (ci := 5) (q0 := 0) hP hK hN rfl rfl rfl) rfl rfl hl.1 rfl (lv_room (Nat.le_of_ble_eq_true rfl)) dX5_done_38 ⟨Nat.zero_le _, Nat.zero_le _⟩) (fun r4 h9 => ?_)
      have hr4 : r4 = F_X5_answer z v f u a pl day := h9
      try rw [← hr4] at hF
      refine lv_if_le (tgt := 46) hx hb dX5_done_41 (by decide) (fun c5 => ?_) (fun c5 => ?_)
      · rw [if_pos c5] at hF
        have c5f : F_X5_answer z v f u a pl day ≤ 0 := by rw [← hr4]; exact c5
        refine lv_iload hx hb dX5_done_46 (lv_at hl 4 rfl) ?_
        refine lv_iload hx hb dX5_done_48 (lv_at hl 5 rfl) ?_
        refine lv_icmp_eq (tgt := 77) hx hb dX5_done_50 (by decide) (fun c6 => ?_) (fun c6 => ?_)
        · rw [if_pos c6] at hF
          refine lv_iconst (v := 3) hx hb dX5_done_77 (by decide) ?_
          refine lv_goto (tgt := 82) hx hb dX5_done_78 (by decide) ?_
          subst hF
          subst hQ9
          exact W.iret (v := 3) hx hb hr (fun t9 ht hW => ⟨⟨3, (), rfl, rfl, by show va_P (dC, dI) vwCl _ t9.heap; rw [ht]; exact hP⟩, hS.F ht⟩) hS.2.2 dX5_done_82
        · rw [if_neg c6] at hF
          refine lv_aload_n hx hb dX5_done_53 rfl (lv_at hl 0 rfl) ?_
          refine va_get (D := (dC, dI)) (ci := 5) (v := .ref (am 3)) (C := RX5) (T := TX5) (N := 25) hx hb hts hinX5 hown hK hP 0 rfl rfl 8 (by decide) hfl16 (fun _ h9 => h9) rfl dX5_done_54 ?_
          refine lv_iload hx hb dX5_done_57 (lv_at hl 4 rfl) ?_
          refine va_iald hx hb hK hP 3 0 rfl rfl (in_ansM hok c2f) dX5_done_59 ?_
          refine lv_iload hx hb dX5_done_60 (lv_at hl 5 rfl) ?_
          refine lv_icmp_eq (tgt := 77) hx hb dX5_done_62 (by decide) (fun c7 => ?_) (fun c7 => ?_)
          · rw [if_pos c7] at hF
            refine lv_iconst (v := 3) hx hb dX5_done_77 (by decide) ?_
            refine lv_goto (tgt := 82) hx hb dX5_done_78 (by decide) ?_
            subst hF
            subst hQ9
            exact W.iret (v := 3) hx hb hr (fun t9 ht hW => ⟨⟨3, (), rfl, rfl, by show va_P (dC, dI) vwCl _ t9.heap; rw [ht]; exact hP⟩, hS.F ht⟩) hS.2.2 dX5_done_82
          · rw [if_neg c7] at hF
            refine lv_aload_n hx hb dX5_done_65 rfl (lv_at hl 0 rfl) ?_
            refine va_get (D := (dC, dI)) (ci := 5) (v := .ref (am 3)) (C := RX5) (T := TX5) (N := 25) hx hb hts hinX5 hown hK hP 0 rfl rfl 8 (by decide) hfl16 (fun _ h9 => h9) rfl dX5_done_66 ?_
            refine lv_iload hx hb dX5_done_69 (lv_at hl 5 rfl) ?_
            refine va_iald hx hb hK hP 3 0 rfl rfl (in_ansM hok c5f) dX5_done_71 ?_
            refine lv_iload hx hb dX5_done_72 (lv_at hl 4 rfl) ?_
            refine lv_icmp_ne (tgt := 81) hx hb dX5_done_74 (by decide) (fun c8 => ?_) (fun c8 => ?_)
            · rw [if_neg c8] at hF
              refine lv_iconst (v := 0) hx hb dX5_done_81 (by decide) ?_
              subst hF
              subst hQ9
              exact W.iret (v := 0) hx hb hr (fun t9 ht hW => ⟨⟨0, (), rfl, rfl, by show va_P (dC, dI) vwCl _ t9.heap; rw [ht]; exact hP⟩, hS.F ht⟩) hS.2.2 dX5_done_82
            · rw [if_pos c8] at hF
              refine lv_iconst (v := 3) hx hb dX5_done_77 (by decide) ?_
              refine lv_goto (tgt := 82) hx hb dX5_done_78 (by decide) ?_
              subst hF
              subst hQ9
              exact W.iret (v := 3) hx hb hr (fun t9 ht hW => ⟨⟨3, (), rfl, rfl, by show va_P (dC, dI) vwCl _ t9.heap; rw [ht]; exact hP⟩, hS.F ht⟩) hS.2.2 dX5_done_82
      · rw [if_neg c5] at hF
        have c5f : ¬ F_X5_answer z v f u a pl day ≤ 0 := by rw [← hr4]; exact c5
        refine lv_iconst (v := 2) hx hb dX5_done_44 (by decide) ?_
        subst hF
        subst hQ9
        exact W.iret (v := 2) hx hb hr (fun t9 ht hW => ⟨⟨2, (), rfl, rfl, by show va_P (dC, dI) vwCl _ t9.heap; rw [ht]; exact hP⟩, hS.F ht⟩) hS.2.2 dX5_done_45
    · rw [if_pos c3] at hF
      refine lv_iconst (v := 0) hx hb dX5_done_30 (by decide) ?_
      subst hF
      subst hQ9
      exact W.iret (v := 0) hx hb hr (fun t9 ht hW => ⟨⟨0, (), rfl, rfl, by show va_P (dC, dI) vwCl _ t9.heap; rw [ht]; exact hP⟩, hS.F ht⟩) hS.2.2 dX5_done_31
  · rw [if_neg c2] at hF
    have c2f : ¬ F_X5_answer z v f t a pl day ≤ 0 := by rw [← hr1]; exact c2
    refine lv_iconst (v := 1) hx hb dX5_done_17 (by decide) ?_
    subst hF
    subst hQ9
    exact W.iret (v := 1) hx hb hr (fun t9 ht hW => ⟨⟨1, (), rfl, rfl, by show va_P (dC, dI) vwCl _ t9.heap; rw [ht]; exact hP⟩, hS.F ht⟩) hS.2.2 dX5_done_18
def F_X5_count (z : Nat → Nat) (v : Nat → Int32) (f : Nat → Nat → Int32) (w : Int32) : Int32 × Int32 × (Nat → Nat) × (Nat → Int32) × (Nat → Nat → Int32) :=
  if w = 0 then
    (nI (z 0), 0, z, v, f)
  else
    if w = 1 then
      (nI (z 1), 0, z, v, f)
    else
      if w = 2 then
        (nI (z 2), 0, z, v, f)
      else
        if w = 3 then
          (nI (z 3), 0, z, v, f)
        else
          if w = 4 then
            (v 1, 0, z, v, f)
          else
            if w = 5 then
              (nI (z 4), 0, z, v, f)
            else
              ((-1), 0, z, v, f)
set_option maxHeartbeats 4000000 in
set_option maxRecDepth 100000 in
theorem c_X5_count (l : Launch) (dC : Nat → ClassId) (dI : Nat → Nat → Nat) (am : Nat → Nat) (cI cZ : ClassId) (th : Int32) (z : Nat → Nat) (v : Nat → Int32) (f : Nat → Nat → Int32) (sz : Nat) (w : Int32) (hok : okM z v f) : Met l yX5_count wsX5_count ({ frames := 0, cells := 0, slots := 0, locals := 0 }) (va_Pc [.ref (am 0), .int w] (fun U => U.heap.size = sz ∧ va_D (fun _ => True) (wM am cI cZ th z v f) ∧ kM dC dI am cI cZ th z v f U)) (va_Qi (fun (r : Int32) (_ : Unit) => r = (F_X5_count z v f w).1) (fun _ U9 => va_P (dC, dI) vwCl (wM am cI cZ ((F_X5_count z v f w).2.1) ((F_X5_count z v f w).2.2.1) ((F_X5_count z v f w).2.2.2.1) ((F_X5_count z v f w).2.2.2.2)) U9.heap) (va_A (wM am cI cZ th z v f) sz)) 0 0 (va_A (wM am cI cZ th z v f) sz) := by
  refine Met.ofW (cc := cX5_count) (maxL := 2) (ret := (some .int)) (by decide) rfl ?_
  intro p e s m args below meth c s₁ B hml hv
  obtain ⟨rfl, hsz, hD0, hP, hK, hN⟩ := hv
  have hx := B.exec
  have hb := B.bytes
  have hr := B.returns
  have hts := atoms_spec (ws := wsX5_count) B.pre
  have hown : s.vm.findClass RX5 = some m.cls := findClass_of_methodNamed B.named
  have hlocks := B.notSynchronized
  have hok9 := hok
  obtain ⟨hz0, hz1, hz2, hz3, hz4, hbz, hbs, hdp, hgv⟩ := hok9
  have hfl111 := hts (.fieldLink RX5 111 "TraderRightsModel" "mandates" "I") (List.mem_of_getElem? (i := 4) rfl)
  have hfl114 := hts (.fieldLink RX5 114 "TraderRightsModel" "suspensions" "I") (List.mem_of_getElem? (i := 5) rfl)
  have hfl135 := hts (.fieldLink RX5 135 "TraderRightsModel" "twos" "I") (List.mem_of_getElem? (i := 6) rfl)
  have hfl145 := hts (.fieldLink RX5 145 "TraderRightsModel" "read" "I") (List.mem_of_getElem? (i := 7) rfl)
  have hfl66 := hts (.fieldLink RX5 66 "TraderRightsModel" "thrown" "I") (List.mem_of_getElem? (i := 1) rfl)
  have hfl69 := hts (.fieldLink RX5 69 "TraderRightsModel" "traders" "I") (List.mem_of_getElem? (i := 2) rfl)
  have hfl87 := hts (.fieldLink RX5 87 "TraderRightsModel" "rights" "I") (List.mem_of_getElem? (i := 3) rfl)
  have hinX5 : ∀ w ∈ u_ws RX5 TX5 25, w ∈ wsX5_count := fun w h => List.mem_cons_of_mem _ (List.mem_append_right _ h)
  subst hsz
  have hD := hD0.self (sz := s.heap.size)
  generalize hAe : va_A (wM am cI cZ th z v f) s.heap.size = A at hD ⊢
  have hA : ∀ q : Nat, s.heap.size ≤ q → A q := fun q h => by rw [← hAe]; exact Or.inr h
  have hS : va_S A s.heap s.heap [] := va_S.rf
  have hl := lv_entry ([.ref (am 0), .int w]) (n := 2) (Nat.le_of_ble_eq_true rfl)
  rw [lg_entry_eq]
  generalize (lg_sl ([.ref (am 0), .int w]) ++ List.replicate (2 - (lg_sl ([.ref (am 0), .int w])).length) Slot.unset).toArray = ls at hl ⊢
  have hl : lv_has ls 2 [(0, .ref (am 0)), (1, .int w)] := hl
  generalize hF : F_X5_count z v f w = R9
  generalize hQ9 : MQ below _ _ s 0 0 A = Q9
  rw [F_X5_count] at hF
  refine lv_aload_n hx hb dX5_count_0 rfl (lv_at hl 0 rfl) ?_
  refine lv_iconst (v := 0) hx hb dX5_count_1 (by decide) ?_
  refine va_put (D := (dC, dI)) (ci := 5) (v := .int 0) (ty := .int) (C := RX5) (T := TX5) (N := 25) hx hb hts hinX5 tyX5 tyX5_ok nmX5 hown hK hP hD hS 0 rfl rfl 0 (by decide) hfl66 (fun _ h9 => h9) rfl (by decide +kernel) rfl rfl (Nat.le_of_ble_eq_true rfl) dX5_count_2 (fun H locs hP hD hS => ?_)
  have hP : va_P (dC, dI) vwCl (wM am cI cZ 0 z v f) H := hP
  have hD : va_D A (wM am cI cZ 0 z v f) := hD
  refine lv_iload_n hx hb dX5_count_5 rfl (lv_at hl 1 rfl) ?_
  by_cases c1 : w = 0
  · rw [if_pos c1] at hF
    refine lv_tableIn (off := 38) (tgt := 44) hx hb dX5_count_6 (by rw [c1]; decide) (by rw [c1]; decide) (by rw [c1]; rfl) (by decide) ?_
    refine lv_aload_n hx hb dX5_count_44 rfl (lv_at hl 0 rfl) ?_
    refine va_get (D := (dC, dI)) (ci := 5) (v := .int (nI (z 0))) (C := RX5) (T := TX5) (N := 25) hx hb hts hinX5 hown hK hP 0 rfl rfl 1 (by decide) hfl69 (fun _ h9 => h9) rfl dX5_count_45 ?_
    subst hF
    subst hQ9
    exact W.iret (v := nI (z 0)) hx hb hr (fun t9 ht hW => ⟨⟨(nI (z 0)), (), rfl, rfl, by show va_P (dC, dI) vwCl _ t9.heap; rw [ht]; exact hP⟩, hS.F ht⟩) hS.2.2 dX5_count_48
  rw [if_neg c1] at hF
  by_cases c2 : w = 1
  · rw [if_pos c2] at hF
    refine lv_tableIn (off := 43) (tgt := 49) hx hb dX5_count_6 (by rw [c2]; decide) (by rw [c2]; decide) (by rw [c2]; rfl) (by decide) ?_
    refine lv_aload_n hx hb dX5_count_49 rfl (lv_at hl 0 rfl) ?_
    refine va_get (D := (dC, dI)) (ci := 5) (v := .int (nI (z 1))) (C := RX5) (T := TX5) (N := 25) hx hb hts hinX5 hown hK hP 0 rfl rfl 2 (by decide) hfl87 (fun _ h9 => h9) rfl dX5_count_50 ?_
    subst hF
    subst hQ9
    exact W.iret (v := nI (z 1)) hx hb hr (fun t9 ht hW => ⟨⟨(nI (z 1)), (), rfl, rfl, by show va_P (dC, dI) vwCl _ t9.heap; rw [ht]; exact hP⟩, hS.F ht⟩) hS.2.2 dX5_count_53
  rw [if_neg c2] at hF
  by_cases c3 : w = 2
  · rw [if_pos c3] at hF
    refine lv_tableIn (off := 48) (tgt := 54) hx hb dX5_count_6 (by rw [c3]; decide) (by rw [c3]; decide) (by rw [c3]; rfl) (by decide) ?_
    refine lv_aload_n hx hb dX5_count_54 rfl (lv_at hl 0 rfl) ?_
    refine va_get (D := (dC, dI)) (ci := 5) (v := .int (nI (z 2))) (C := RX5) (T := TX5) (N := 25) hx hb hts hinX5 hown hK hP 0 rfl rfl 3 (by decide) hfl111 (fun _ h9 => h9) rfl dX5_count_55 ?_
    subst hF
    subst hQ9
    exact W.iret (v := nI (z 2)) hx hb hr (fun t9 ht hW => ⟨⟨(nI (z 2)), (), rfl, rfl, by show va_P (dC, dI) vwCl _ t9.heap; rw [ht]; exact hP⟩, hS.F ht⟩) hS.2.2 dX5_count_58
  rw [if_neg c3] at hF
  by_cases c4 : w = 3
  · rw [if_pos c4] at hF
    refine lv_tableIn (off := 53) (tgt := 59) hx hb dX5_count_6 (by rw [c4]; decide) (by rw [c4]; decide) (by rw [c4]; rfl) (by decide) ?_
    refine lv_aload_n hx hb dX5_count_59 rfl (lv_at hl 0 rfl) ?_
    refine va_get (D := (dC, dI)) (ci := 5) (v := .int (nI (z 3))) (C := RX5) (T := TX5) (N := 25) hx hb hts hinX5 hown hK hP 0 rfl rfl 4 (by decide) hfl114 (fun _ h9 => h9) rfl dX5_count_60 ?_
    subst hF
    subst hQ9
    exact W.iret (v := nI (z 3)) hx hb hr (fun t9 ht hW => ⟨⟨(nI (z 3)), (), rfl, rfl, by show va_P (dC, dI) vwCl _ t9.heap; rw [ht]; exact hP⟩, hS.F ht⟩) hS.2.2 dX5_count_63
  rw [if_neg c4] at hF
  by_cases c5 : w = 4
  · rw [if_pos c5] at hF
    refine lv_tableIn (off := 58) (tgt := 64) hx hb dX5_count_6 (by rw [c5]; decide) (by rw [c5]; decide) (by rw [c5]; rfl) (by decide) ?_
    refine lv_aload_n hx hb dX5_count_64 rfl (lv_at hl 0 rfl) ?_
    refine va_get (D := (dC, dI)) (ci := 5) (v := .int (v 1)) (C := RX5) (T := TX5) (N := 25) hx hb hts hinX5 hown hK hP 0 rfl rfl 5 (by decide) hfl135 (fun _ h9 => h9) rfl dX5_count_65 ?_
    subst hF
    subst hQ9
    exact W.iret (v := v 1) hx hb hr (fun t9 ht hW => ⟨⟨(v 1), (), rfl, rfl, by show va_P (dC, dI) vwCl _ t9.heap; rw [ht]; exact hP⟩, hS.F ht⟩) hS.2.2 dX5_count_68
  rw [if_neg c5] at hF
  by_cases c6 : w = 5
  · rw [if_pos c6] at hF
    refine lv_tableIn (off := 63) (tgt := 69) hx hb dX5_count_6 (by rw [c6]; decide) (by rw [c6]; decide) (by rw [c6]; rfl) (by decide) ?_
    refine lv_aload_n hx hb dX5_count_69 rfl (lv_at hl 0 rfl) ?_
    refine va_get (D := (dC, dI)) (ci := 5) (v := .int (nI (z 4))) (C := RX5) (T := TX5) (N := 25) hx hb hts hinX5 hown hK hP 0 rfl rfl 23 (by decide) hfl145 (fun _ h9 => h9) rfl dX5_count_70 ?_
    subst hF
    subst hQ9
    exact W.iret (v := nI (z 4)) hx hb hr (fun t9 ht hW => ⟨⟨(nI (z 4)), (), rfl, rfl, by show va_P (dC, dI) vwCl _ t9.heap; rw [ht]; exact hP⟩, hS.F ht⟩) hS.2.2 dX5_count_73
  rw [if_neg c6] at hF
  refine lv_tableOut (tgt := 74) hx hb dX5_count_6 (sw_out c1 c2 c3 c4 c5 c6) (by decide) ?_
  refine lv_iconst (v := (-1)) hx hb dX5_count_74 (by decide) ?_
  subst hF
  subst hQ9
  exact W.iret (v := (-1)) hx hb hr (fun t9 ht hW => ⟨⟨(-1), (), rfl, rfl, by show va_P (dC, dI) vwCl _ t9.heap; rw [ht]; exact hP⟩, hS.F ht⟩) hS.2.2 dX5_count_75
