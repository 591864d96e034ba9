theorem nn_of {i : Int32} (h : ¬ i < 0) : 0 ≤ i.toInt := by
  rw [Int32.lt_iff_toInt_lt] at h
  have e0 : (0 : Int32).toInt = 0 := rfl
  omega
theorem dg_dec {i k : Int32} {n : Nat} (hi : 0 ≤ i.toInt) (h : 0 ≤ k.toInt ∧ k.toInt ≤ 5 ∧ k.toInt < (n + 1 : Nat)) (c : ¬ k ≤ i) : 0 ≤ (k - 1).toInt ∧ (k - 1).toInt ≤ 5 ∧ (k - 1).toInt < n := by
  rw [Int32.le_iff_toInt_le] at c
  have e1 : (1 : Int32).toInt = 1 := rfl
  have e : (k - 1).toInt = k.toInt - 1 := by
    rw [Int32.toInt_sub, e1, Int.bmod_eq_of_le] <;> omega
  omega
def F_X4_digit_L4 (n i : Int32)  : Nat → Int32 → Int32 → Int32
  | 0, re, k => re
  | n4 + 1, re, k =>
    if k ≤ i then
      re
    else
      F_X4_digit_L4 n i n4 (re / 26) (k - 1)
def F_X4_digit (n i : Int32) : Int32 :=
  (F_X4_digit_L4 n i 6 n 5) - (F_X4_digit_L4 n i 6 n 5) / 26 * 26
set_option maxHeartbeats 4000000 in
set_option maxRecDepth 100000 in
theorem c_X4_digit (l : Launch) (n i : Int32) (hi : 0 ≤ i.toInt) : Met l yX4_digit wsX4_digit ({ frames := 0, cells := 0, slots := 0, locals := 0 }) (va_Pc [.int n, .int i] (fun _ => True)) (vp_Si (fun r => r = F_X4_digit n i)) 0 0 (fun _ => False) := by
  refine Met.ofW (cc := cX4_digit) (maxL := 4) (ret := (some .int)) (by decide) rfl ?_
  intro p e s m args below meth c s₁ B hml hv
  obtain ⟨rfl, -⟩ := hv
  have hx := B.exec
  have hb := B.bytes
  have hr := B.returns
  have hts := atoms_spec (ws := wsX4_digit) B.pre
  have hown : s.vm.findClass RX4 = some m.cls := findClass_of_methodNamed B.named
  have hlocks := B.notSynchronized
  have hl := lv_entry ([.int n, .int i]) (n := 4) (Nat.le_of_ble_eq_true rfl)
  rw [lg_entry_eq]
  generalize (lg_sl ([.int n, .int i]) ++ List.replicate (4 - (lg_sl ([.int n, .int i])).length) Slot.unset).toArray = ls at hl ⊢
  have hl : lv_has ls 4 [(0, .int n), (1, .int i)] := hl
  generalize hF : F_X4_digit n i = R9
  generalize hQ9 : MQ below (vp_Si (fun r => r = R9)) _ s 0 0 (fun _ => False) = Q9
  rw [F_X4_digit] at hF
  refine lv_iload_n hx hb dX4_digit_0 rfl (lv_at hl 0 rfl) ?_
  refine lv_istore_n (lv' := [(2, .int n), (0, .int n), (1, .int i)]) hx hb dX4_digit_1 rfl hl (by decide) rfl (fun ls hl => ?_)
  refine lv_iconst (v := 5) hx hb dX4_digit_2 (by decide) ?_
  refine lv_istore_n (lv' := [(3, .int 5), (2, .int n), (0, .int n), (1, .int i)]) hx hb dX4_digit_3 rfl hl (by decide) rfl (fun ls hl => ?_)
  have lp4 : ∀ (n4 : Nat) (re : Int32) (k : Int32) (ls : Array Slot), 0 ≤ k.toInt ∧ k.toInt ≤ 5 ∧ k.toInt < n4 → lv_has ls 4 [(0, .int n), (1, .int i), (2, .int re), (3, .int k)] → (∀ ls : Array Slot, lv_has ls 4 [(0, .int n), (1, .int i), (2, .int (F_X4_digit_L4 n i n4 re k))] → W p l e (headSpec wsX4_digit ({ frames := 0, cells := 0, slots := 0, locals := 0 })).room s m ([.int n, .int i] : List Value).toArray below meth c s.heap [] 0 0 Q9 (F0 m 20 ls [])) → W p l e (headSpec wsX4_digit ({ frames := 0, cells := 0, slots := 0, locals := 0 })).room s m ([.int n, .int i] : List Value).toArray below meth c s.heap [] 0 0 Q9 (F0 m 4 ls []) := by
    intro n4
    induction n4 with
    | zero =>
      intro re k ls hm4
      exact absurd hm4.2.2 (by have := hm4.1; omega)
    | succ n4 ih4 =>
      intro re k ls hm4 hl hq4
      generalize hF4 : F_X4_digit_L4 n i (n4 + 1) re k = R4 at hq4
      rw [F_X4_digit_L4] at hF4
      refine lv_iload_n hx hb dX4_digit_4 rfl (lv_at hl 3 rfl) ?_
      refine lv_iload_n hx hb dX4_digit_5 rfl (lv_at hl 1 rfl) ?_
      refine lv_icmp_le (tgt := 20) hx hb dX4_digit_6 (by decide) (fun c1 => ?_) (fun c1 => ?_)
      · rw [if_pos c1] at hF4
        subst hF4
        exact hq4 ls (lv_sub hl [0, 1, 2] rfl)
      · rw [if_neg c1] at hF4
        refine lv_iload_n hx hb dX4_digit_9 rfl (lv_at hl 2 rfl) ?_
        refine lv_bipush (v := 26) hx hb dX4_digit_10 (by decide) ?_
        refine lv_idiv hx hb dX4_digit_12 (by decide) ?_
        refine lv_istore_n (lv' := [(2, .int (re / 26)), (0, .int n), (1, .int i), (3, .int k)]) hx hb dX4_digit_13 rfl hl (by decide) rfl (fun ls hl => ?_)
        refine lv_iinc (v := k - 1) (lv' := [(3, .int (k - 1)), (2, .int (re / 26)), (0, .int n), (1, .int i)]) hx hb dX4_digit_14 hl (k := 3) rfl (xi_sub1 _) (by decide) rfl (fun ls hl => ?_)
        refine lv_goto (tgt := 4) hx hb dX4_digit_17 (by decide) ?_
        exact ih4 (re / 26) (k - 1) ls (dg_dec hi hm4 c1) (lv_sub hl [2, 3, 1, 0] rfl) (by rw [hF4]; exact hq4)
  refine lp4 6 n 5 ls ⟨by decide, by decide, by decide⟩ (lv_sub hl [2, 3, 1, 0] rfl) (fun ls hl => ?_)
  obtain ⟨r2, hr2⟩ : ∃ y, y = (F_X4_digit_L4 n i 6 n 5) := ⟨_, rfl⟩
  rw [← hr2] at hl
  try rw [← hr2] at hF
  refine lv_iload_n hx hb dX4_digit_20 rfl (lv_at hl 2 rfl) ?_
  refine lv_bipush (v := 26) hx hb dX4_digit_21 (by decide) ?_
  refine lv_irem hx hb dX4_digit_23 (by decide) ?_
  subst hQ9
  exact W.iret hx hb hr (fun t ht hW => ⟨_, rfl, hF, ht⟩) (fun q h => by cases h) dX4_digit_24
def F_X4_checkValue_L4 (n : Int32)  : Nat → Int32 → Nat → Int32
  | 0, su, k => su
  | n4 + 1, su, k =>
    if 6 ≤ k then
      su
    else
      F_X4_checkValue_L4 n n4 (su + ((nI (k + 1)) * (F_X4_digit n (nI k)))) (k + 1)
def F_X4_checkValue (n : Int32) : Int32 :=
  (F_X4_checkValue_L4 n (6 + 1) 0 0) - (F_X4_checkValue_L4 n (6 + 1) 0 0) / 23 * 23
set_option maxHeartbeats 4000000 in
set_option maxRecDepth 100000 in
theorem c_X4_checkValue (l : Launch) (n : Int32) : Met l yX4_checkValue wsX4_checkValue ({ frames := 1, cells := 0, slots := 0, locals := 23 }) (va_Pc [.int n] (fun _ => True)) (vp_Si (fun r => r = F_X4_checkValue n)) 0 0 (fun _ => False) := by
  refine Met.ofW (cc := cX4_checkValue) (maxL := 3) (ret := (some .int)) (by decide) rfl ?_
  intro p e s m args below meth c s₁ B hml hv
  obtain ⟨rfl, -⟩ := hv
  have hx := B.exec
  have hb := B.bytes
  have hr := B.returns
  have hts := atoms_spec (ws := wsX4_checkValue) B.pre
  have hown : s.vm.findClass RX4 = some m.cls := findClass_of_methodNamed B.named
  have hlocks := B.notSynchronized
  have hl := lv_entry ([.int n]) (n := 3) (Nat.le_of_ble_eq_true rfl)
  rw [lg_entry_eq]
  generalize (lg_sl ([.int n]) ++ List.replicate (3 - (lg_sl ([.int n])).length) Slot.unset).toArray = ls at hl ⊢
  have hl : lv_has ls 3 [(0, .int n)] := hl
  generalize hF : F_X4_checkValue n = R9
  generalize hQ9 : MQ below (vp_Si (fun r => r = R9)) _ s 0 0 (fun _ => False) = Q9
  rw [F_X4_checkValue] at hF
  refine lv_iconst (v := 0) hx hb dX4_checkValue_0 (by decide) ?_
  refine lv_istore_n (lv' := [(1, .int 0), (0, .int n)]) hx hb dX4_checkValue_1 rfl hl (by decide) rfl (fun ls hl => ?_)
  refine lv_iconst (v := 0) hx hb dX4_checkValue_2 (by decide) ?_
  refine lv_istore_n (lv' := [(2, .int 0), (1, .int 0), (0, .int n)]) hx hb dX4_checkValue_3 rfl hl (by decide) rfl (fun ls hl => ?_)
  have lp4 : ∀ (n4 : Nat) (su : Int32) (k : Nat) (ls : Array Slot), k ≤ 6 → 6 < k + n4 → lv_has ls 3 [(0, .int n), (1, .int su), (2, .int (nI k))] → (∀ ls : Array Slot, lv_has ls 3 [(0, .int n), (1, .int (F_X4_checkValue_L4 n n4 su k))] → W p l e (headSpec wsX4_checkValue ({ frames := 1, cells := 0, slots := 0, locals := 23 })).room s m ([.int n] : List Value).toArray below meth c s.heap [] 0 0 Q9 (F0 m 28 ls [])) → W p l e (headSpec wsX4_checkValue ({ frames := 1, cells := 0, slots := 0, locals := 23 })).room s m ([.int n] : List Value).toArray below meth c s.heap [] 0 0 Q9 (F0 m 4 ls []) := by
    intro n4
    induction n4 with
    | zero =>
      intro su k ls hk4 hn4
      exact absurd hn4 (by omega)
    | succ n4 ih4 =>
      intro su k ls hk4 hn4 hl hq4
      generalize hF4 : F_X4_checkValue_L4 n (n4 + 1) su k = R4 at hq4
      rw [F_X4_checkValue_L4] at hF4
      refine lv_iload_n hx hb dX4_checkValue_4 rfl (lv_at hl 2 rfl) ?_
      refine lv_bipush (v := 6) hx hb dX4_checkValue_5 (by decide) ?_
      refine lv_icmp_ge (tgt := 28) hx hb dX4_checkValue_7 (by decide) (fun c1 => ?_) (fun c1 => ?_)
      · have c1 : 6 ≤ k := (nI_leI (a := 6) (b := k) (by omega) (by omega)).mp c1
        rw [if_pos c1] at hF4
        subst hF4
        exact hq4 ls (lv_sub hl [0, 1] rfl)
      · have c1 : ¬ 6 ≤ k := fun h9 => c1 ((nI_leI (a := 6) (b := k) (by omega) (by omega)).mpr h9)
        rw [if_neg c1] at hF4
        refine lv_iload_n hx hb dX4_checkValue_10 rfl (lv_at hl 1 rfl) ?_
        refine lv_iload_n hx hb dX4_checkValue_11 rfl (lv_at hl 2 rfl) ?_
        refine lv_iconst (v := 1) hx hb dX4_checkValue_12 (by decide) ?_
        refine lv_iadd hx hb dX4_checkValue_13 ?_
        refine xe_top (nI_1 _) ?_
        refine lv_iload_n hx hb dX4_checkValue_14 rfl (lv_at hl 0 rfl) ?_
        refine lv_iload_n hx hb dX4_checkValue_15 rfl (lv_at hl 2 rfl) ?_
        refine vp_callSi (W.runS (As := [.int n, .int (nI k)]) (rest := [.int (nI (k + 1)), .int su]) ⟨hx, hb, hml, hown, hts⟩ (c_X4_digit l n (nI k) (by rw [nI_toInt (by omega)]; omega)) (cwS 2 hts gX4_checkValue_X4_digit rfl rfl rfl (by decide +kernel) ⟨Nat.le_of_ble_eq_true rfl, Nat.le_of_ble_eq_true rfl⟩) preT rfl rfl hl.1 rfl (lv_room (Nat.le_of_ble_eq_true rfl)) dX4_checkValue_16 ⟨Nat.zero_le _, Nat.zero_le _⟩) (fun r2 h9 => ?_)
        have hr2 : r2 = F_X4_digit n (nI k) := h9
        try rw [← hr2] at hF
        try rw [← hr2] at hF4
        refine lv_imul hx hb dX4_checkValue_19 ?_
        refine lv_iadd hx hb dX4_checkValue_20 ?_
        refine lv_istore_n (lv' := [(1, .int (su + ((nI (k + 1)) * r2))), (0, .int n), (2, .int (nI k))]) hx hb dX4_checkValue_21 rfl hl (by decide) rfl (fun ls hl => ?_)
        refine lv_iinc (v := nI (k + 1)) (lv' := [(2, .int (nI (k + 1))), (1, .int (su + ((nI (k + 1)) * r2))), (0, .int n)]) hx hb dX4_checkValue_22 hl (k := 2) rfl (xi_inc _) (by decide) rfl (fun ls hl => ?_)
        refine lv_goto (tgt := 4) hx hb dX4_checkValue_25 (by decide) ?_
        exact ih4 (su + ((nI (k + 1)) * r2)) (k + 1) ls (by omega) (by omega) (lv_sub hl [2, 1, 0] rfl) (by rw [hF4]; exact hq4)
  refine lp4 (6 + 1) 0 0 ls (by omega) (by omega) (lv_sub hl [2, 1, 0] rfl) (fun ls hl => ?_)
  obtain ⟨r3, hr3⟩ : ∃ y, y = (F_X4_checkValue_L4 n (6 + 1) 0 0) := ⟨_, rfl⟩
  rw [← hr3] at hl
  try rw [← hr3] at hF
  refine lv_iload_n hx hb dX4_checkValue_28 rfl (lv_at hl 1 rfl) ?_
  refine lv_bipush (v := 23) hx hb dX4_checkValue_29 (by decide) ?_
  refine lv_irem hx hb dX4_checkValue_31 (by decide) ?_
  subst hQ9
  exact W.iret hx hb hr (fun t ht hW => ⟨_, rfl, hF, ht⟩) (fun q h => by cases h) dX4_checkValue_32
def F_X1_read (z : Nat → Nat) (v : Nat → Int32) (f : Nat → Nat → Int32) (x : Int32) : Int32 × (Nat → Nat) × (Nat → Int32) × (Nat → Nat → Int32) :=
  if x < 65 then
    ((-1), uu z 4 0, uu v 2 0, f)
  else
    if x ≤ 90 then
      if 6 ≤ z 4 then
        if 99999999 < v 2 then
          ((-1), uu z 4 0, uu v 2 0, f)
        else
          if x - 65 = F_X4_checkValue (v 2) then
            (1, uu z 4 0, uu (uu v 1 (v 2)) 2 0, f)
          else
            ((-1), uu z 4 0, uu v 2 0, f)
      else
        (0, uu z 4 (z 4 + 1), uu v 2 (((v 2) * 26) + (x - 65)), f)
    else
      ((-1), uu z 4 0, uu v 2 0, f)
set_option maxHeartbeats 4000000 in
set_option maxRecDepth 100000 in
theorem c_X1_read (l : Launch) (dC : Nat → ClassId) (dI : Nat → Nat → Nat) (ad : Nat → Nat) (cI cZ : ClassId) (z : Nat → Nat) (v : Nat → Int32) (f : Nat → Nat → Int32) (sz : Nat) (x : Int32) (hok : okX z v f) : Met l yX1_read wsX1_read ({ frames := 2, cells := 0, slots := 0, locals := 45 }) (va_Pc [.ref (ad 21), .int x] (fun U => U.heap.size = sz ∧ va_D (fun _ => True) (wX ad cI cZ z v f) ∧ kX dC dI ad cI cZ z v f U)) (va_Qi (fun (r : Int32) (_ : Unit) => r = (F_X1_read z v f x).1) (fun _ U9 => va_P (dC, dI) vwCl (wX ad cI cZ ((F_X1_read z v f x).2.1) ((F_X1_read z v f x).2.2.1) ((F_X1_read z v f x).2.2.2)) U9.heap) (va_A (wX ad cI cZ z v f) sz)) 0 0 (va_A (wX ad cI cZ z v f) sz) := by
  refine Met.ofW (cc := cX1_read) (maxL := 4) (ret := (some .int)) (by decide) rfl ?_
  intro p e s m args below meth c s₁ B hml hv
  obtain ⟨rfl, hsz, hD0, hP, hK, hN⟩ := hv
  have hx := B.exec
  have hb := B.bytes
  have hr := B.returns
  have hts := atoms_spec (ws := wsX1_read) B.pre
  have hown : s.vm.findClass RX1 = some m.cls := findClass_of_methodNamed B.named
  have hlocks := B.notSynchronized
  have hok9 := hok
  obtain ⟨hz0, hz1, hz2, hz3, hz4, hbz, hbs⟩ := hok9
  have hcn24 := hts (.constant RX1 24 (99999999)) (List.mem_of_getElem? (i := 3) rfl)
  have hfl15 := hts (.fieldLink RX1 15 "TraderRights$Reader" "lettersRead" "I") (List.mem_of_getElem? (i := 1) rfl)
  have hfl18 := hts (.fieldLink RX1 18 "TraderRights$Reader" "number" "I") (List.mem_of_getElem? (i := 2) rfl)
  have hfl9 := hts (.fieldLink RX1 9 "TraderRights$Reader" "latest" "I") (List.mem_of_getElem? (i := 4) rfl)
  have hinX1 : ∀ w ∈ u_ws RX1 TX1 3, w ∈ wsX1_read := fun w h => List.mem_cons_of_mem _ (List.mem_append_right _ h)
  have hiniX4 := hts (.initialized RX4) (List.mem_of_getElem? (i := 11) rfl)
  have hnw25 := hN (.methodLinkNest RX1 25 yX4_checkValue "TraderRights") (by decide +kernel)
  have hstX4_checkValue := hts (.static yX4_checkValue) (List.mem_of_getElem? (i := 10) rfl)
  subst hsz
  have hD := hD0.self (sz := s.heap.size)
  generalize hAe : va_A (wX ad cI cZ z v f) s.heap.size = A at hD ⊢
  have hA : ∀ q : Nat, s.heap.size ≤ q → A q := fun q h => by rw [← hAe]; exact Or.inr h
  have hS : va_S A s.heap s.heap [] := va_S.rf
  have hl := lv_entry ([.ref (ad 21), .int x]) (n := 4) (Nat.le_of_ble_eq_true rfl)
  rw [lg_entry_eq]
  generalize (lg_sl ([.ref (ad 21), .int x]) ++ List.replicate (4 - (lg_sl ([.ref (ad 21), .int x])).length) Slot.unset).toArray = ls at hl ⊢
  have hl : lv_has ls 4 [(0, .ref (ad 21)), (1, .int x)] := hl
  generalize hF : F_X1_read z v f x = R9
  generalize hQ9 : MQ below _ _ s 0 0 A = Q9
  rw [F_X1_read] at hF
  refine lv_iload_n hx hb dX1_read_0 rfl (lv_at hl 1 rfl) ?_
  refine lv_bipush (v := 65) hx hb dX1_read_1 (by decide) ?_
  refine lv_icmp_lt (tgt := 12) hx hb dX1_read_3 (by decide) (fun c1 => ?_) (fun c1 => ?_)
  · rw [if_pos c1] at hF
    refine lv_aload_n hx hb dX1_read_12 rfl (lv_at hl 0 rfl) ?_
    have hFc := va_free (wc := (wX ad cI cZ z v f)) hD hS hA [0, 1, 2, 3, 4, 5, 6, 7, 8, 9, 10, 11, 12, 13, 14, 15, 16, 17, 18, 19, 20, 21] rfl
    refine va_callv (va_runV (As := []) (rest := []) ⟨hx, hb, hml, hown, hts⟩ (c_X1_restart l dC dI ad cI cZ z v f s.heap.size hok) (cwV 0 hts gX1_read_X1_restart rfl rfl rfl (by decide +kernel) ⟨Nat.le_of_ble_eq_true rfl, Nat.le_of_ble_eq_true rfl⟩) (preXw (ci := 1) (q0 := 21) hP hK hN hD rfl rfl rfl) rfl rfl hl.1 rfl (lv_room (Nat.le_of_ble_eq_true rfl)) dX1_read_13 ⟨Nat.zero_le _, Nat.zero_le _⟩) hS (fun q _ h => hFc q h) hFc (fun u9 t9 H locs ht hvm hw hB hz1 hk1 hS => ?_)
    have hP : va_P (dC, dI) vwCl _ t9.heap := hB
    rw [ht] at hP
    have hP : va_P (dC, dI) vwCl (wX ad cI cZ (uu z 4 0) (uu v 2 0) f) H := hP
    have hD : va_D A (wX ad cI cZ (uu z 4 0) (uu v 2 0) f) := va_D.fst (ws := (wX ad cI cZ z v f)) rfl hD
    refine lv_iconst (v := (-1)) hx hb dX1_read_16 (by decide) ?_
    subst hF
    subst hQ9
    exact W.iret (v := (-1)) hx hb hr (fun t9 ht hW => ⟨⟨(-1), (), rfl, rfl, by show va_P (dC, dI) vwCl _ t9.heap; rw [ht]; exact hP⟩, hS.F ht⟩) hS.2.2 dX1_read_17
  · rw [if_neg c1] at hF
    refine lv_iload_n hx hb dX1_read_6 rfl (lv_at hl 1 rfl) ?_
    refine lv_bipush (v := 90) hx hb dX1_read_7 (by decide) ?_
    refine lv_icmp_le (tgt := 18) hx hb dX1_read_9 (by decide) (fun c3 => ?_) (fun c3 => ?_)
    · rw [if_pos c3] at hF
      refine lv_iload_n hx hb dX1_read_18 rfl (lv_at hl 1 rfl) ?_
      refine lv_bipush (v := 65) hx hb dX1_read_19 (by decide) ?_
      refine lv_isub hx hb dX1_read_21 ?_
      refine lv_istore_n (lv' := [(2, .int (x - 65)), (0, .ref (ad 21)), (1, .int x)]) hx hb dX1_read_22 rfl hl (by decide) rfl (fun ls hl => ?_)
      refine lv_aload_n hx hb dX1_read_23 rfl (lv_at hl 1 rfl) ?_
      refine va_get (D := (dC, dI)) (ci := 1) (v := .int (nI (z 4))) (C := RX1) (T := TX1) (N := 3) hx hb hts hinX1 hown hK hP 21 rfl rfl 1 (by decide) hfl15 (fun _ h9 => h9) rfl dX1_read_24 ?_
      refine lv_bipush (v := 6) hx hb dX1_read_27 (by decide) ?_
      refine lv_icmp_ge (tgt := 57) hx hb dX1_read_29 (by decide) (fun c4 => ?_) (fun c4 => ?_)
      · have c4 : 6 ≤ z 4 := (nI_leI (a := 6) (b := z 4) (by omega) (by omega)).mp c4
        rw [if_pos c4] at hF
        refine lv_aload_n hx hb dX1_read_57 rfl (lv_at hl 1 rfl) ?_
        refine va_get (D := (dC, dI)) (ci := 1) (v := .int (v 2)) (C := RX1) (T := TX1) (N := 3) hx hb hts hinX1 hown hK hP 21 rfl rfl 2 (by decide) hfl18 (fun _ h9 => h9) rfl dX1_read_58 ?_
        refine lv_ldc (v := 99999999) hx hb hown hcn24 dX1_read_61 ?_
        refine lv_icmp_gt (tgt := 81) hx hb dX1_read_63 (by decide) (fun c5 => ?_) (fun c5 => ?_)
        · rw [if_pos c5] at hF
          refine lv_iconst (v := 0) hx hb dX1_read_81 (by decide) ?_
          refine lv_istore_n (lv' := [(3, .int 0), (2, .int (x - 65)), (0, .ref (ad 21)), (1, .int x)]) hx hb dX1_read_82 rfl hl (by decide) rfl (fun ls hl => ?_)
          refine lv_iload_n hx hb dX1_read_83 rfl (lv_at hl 0 rfl) ?_
          refine lv_if_eq (tgt := 95) hx hb dX1_read_84 (by decide) (fun _ => ?_) (fun c9 => absurd c9 (by decide))
          refine lv_aload_n hx hb dX1_read_95 rfl (lv_at hl 2 rfl) ?_
          have hFc := va_free (wc := (wX ad cI cZ z v f)) hD hS hA [0, 1, 2, 3, 4, 5, 6, 7, 8, 9, 10, 11, 12, 13, 14, 15, 16, 17, 18, 19, 20, 21] rfl
          refine va_callv (va_runV (As := []) (rest := []) ⟨hx, hb, hml, hown, hts⟩ (c_X1_restart l dC dI ad cI cZ z v f s.heap.size hok) (cwV 0 hts gX1_read_X1_restart rfl rfl rfl (by decide +kernel) ⟨Nat.le_of_ble_eq_true rfl, Nat.le_of_ble_eq_true rfl⟩) (preXw (ci := 1) (q0 := 21) hP hK hN hD rfl rfl rfl) rfl rfl hl.1 rfl (lv_room (Nat.le_of_ble_eq_true rfl)) dX1_read_96 ⟨Nat.zero_le _, Nat.zero_le _⟩) hS (fun q _ h => hFc q h) hFc (fun u9 t9 H locs ht hvm hw hB hz1 hk1 hS => ?_)
          have hP : va_P (dC, dI) vwCl _ t9.heap := hB
          rw [ht] at hP
          have hP : va_P (dC, dI) vwCl (wX ad cI cZ (uu z 4 0) (uu v 2 0) f) H := hP
          have hD : va_D A (wX ad cI cZ (uu z 4 0) (uu v 2 0) f) := va_D.fst (ws := (wX ad cI cZ z v f)) rfl hD
          refine lv_iload_n hx hb dX1_read_99 rfl (lv_at hl 0 rfl) ?_
          refine lv_if_eq (tgt := 107) hx hb dX1_read_100 (by decide) (fun _ => ?_) (fun c9 => absurd c9 (by decide))
          refine lv_iconst (v := (-1)) hx hb dX1_read_107 (by decide) ?_
          subst hF
          subst hQ9
          exact W.iret (v := (-1)) hx hb hr (fun t9 ht hW => ⟨⟨(-1), (), rfl, rfl, by show va_P (dC, dI) vwCl _ t9.heap; rw [ht]; exact hP⟩, hS.F ht⟩) hS.2.2 dX1_read_108
        · rw [if_neg c5] at hF
          refine lv_iload_n hx hb dX1_read_66 rfl (lv_at hl 0 rfl) ?_
          refine lv_aload_n hx hb dX1_read_67 rfl (lv_at hl 1 rfl) ?_
          refine va_get (D := (dC, dI)) (ci := 1) (v := .int (v 2)) (C := RX1) (T := TX1) (N := 3) hx hb hts hinX1 hown hK hP 21 rfl rfl 2 (by decide) hfl18 (fun _ h9 => h9) rfl dX1_read_68 ?_
          refine vp_callSi (va_Run.run (va_runSN (As := [.int (v 2)]) (rest := [.int (x - 65)]) ⟨hx, hb, hml, hown, hts⟩ (c_X4_checkValue l (v 2)) ⟨(va_cnB 1 hts gX1_read_X4_checkValue_n25 rfl rfl rfl hnw25 hiniX4 (by decide +kernel) ⟨Nat.le_of_ble_eq_true rfl, Nat.le_of_ble_eq_true rfl⟩), hstX4_checkValue, trivial⟩ preT rfl rfl hl.1 rfl (lv_room (Nat.le_of_ble_eq_true rfl)) dX1_read_71 ⟨Nat.zero_le _, Nat.zero_le _⟩)) (fun r7 h9 => ?_)
          have hr7 : r7 = F_X4_checkValue (v 2) := h9
          try rw [← hr7] at hF
          refine lv_icmp_ne (tgt := 81) hx hb dX1_read_74 (by decide) (fun c8 => ?_) (fun c8 => ?_)
          · rw [if_neg c8] at hF
            refine lv_iconst (v := 0) hx hb dX1_read_81 (by decide) ?_
            refine lv_istore_n (lv' := [(3, .int 0), (2, .int (x - 65)), (0, .ref (ad 21)), (1, .int x)]) hx hb dX1_read_82 rfl hl (by decide) rfl (fun ls hl => ?_)
            refine lv_iload_n hx hb dX1_read_83 rfl (lv_at hl 0 rfl) ?_
            refine lv_if_eq (tgt := 95) hx hb dX1_read_84 (by decide) (fun _ => ?_) (fun c9 => absurd c9 (by decide))
            refine lv_aload_n hx hb dX1_read_95 rfl (lv_at hl 2 rfl) ?_
            have hFc := va_free (wc := (wX ad cI cZ z v f)) hD hS hA [0, 1, 2, 3, 4, 5, 6, 7, 8, 9, 10, 11, 12, 13, 14, 15, 16, 17, 18, 19, 20, 21] rfl
            refine va_callv (va_runV (As := []) (rest := []) ⟨hx, hb, hml, hown, hts⟩ (c_X1_restart l dC dI ad cI cZ z v f s.heap.size hok) (cwV 0 hts gX1_read_X1_restart rfl rfl rfl (by decide +kernel) ⟨Nat.le_of_ble_eq_true rfl, Nat.le_of_ble_eq_true rfl⟩) (preXw (ci := 1) (q0 := 21) hP hK hN hD rfl rfl rfl) rfl rfl hl.1 rfl (lv_room (Nat.le_of_ble_eq_true rfl)) dX1_read_96 ⟨Nat.zero_le _, Nat.zero_le _⟩) hS (fun q _ h => hFc q h) hFc (fun u9 t9 H locs ht hvm hw hB hz1 hk1 hS => ?_)
            have hP : va_P (dC, dI) vwCl _ t9.heap := hB
            rw [ht] at hP
            have hP : va_P (dC, dI) vwCl (wX ad cI cZ (uu z 4 0) (uu v 2 0) f) H := hP
            have hD : va_D A (wX ad cI cZ (uu z 4 0) (uu v 2 0) f) := va_D.fst (ws := (wX ad cI cZ z v f)) rfl hD
            refine lv_iload_n hx hb dX1_read_99 rfl (lv_at hl 0 rfl) ?_
            refine lv_if_eq (tgt := 107) hx hb dX1_read_100 (by decide) (fun _ => ?_) (fun c9 => absurd c9 (by decide))
            refine lv_iconst (v := (-1)) hx hb dX1_read_107 (by decide) ?_
            subst hF
            subst hQ9
            exact W.iret (v := (-1)) hx hb hr (fun t9 ht hW => ⟨⟨(-1), (), rfl, rfl, by show va_P (dC, dI) vwCl _ t9.heap; rw [ht]; exact hP⟩, hS.F ht⟩) hS.2.2 dX1_read_108
          · rw [if_pos c8] at hF
            refine lv_iconst (v := 1) hx hb dX1_read_77 (by decide) ?_
            refine lv_goto (tgt := 82) hx hb dX1_read_78 (by decide) ?_
            refine lv_istore_n (lv' := [(3, .int 1), (2, .int (x - 65)), (0, .ref (ad 21)), (1, .int x)]) hx hb dX1_read_82 rfl hl (by decide) rfl (fun ls hl => ?_)
            refine lv_iload_n hx hb dX1_read_83 rfl (lv_at hl 0 rfl) ?_
            refine lv_if_eq (tgt := 95) hx hb dX1_read_84 (by decide) (fun c9 => absurd c9 (by decide)) (fun _ => ?_)
            refine lv_aload_n hx hb dX1_read_87 rfl (lv_at hl 2 rfl) ?_
            refine lv_aload_n hx hb dX1_read_88 rfl (lv_at hl 2 rfl) ?_
            refine va_get (D := (dC, dI)) (ci := 1) (v := .int (v 2)) (C := RX1) (T := TX1) (N := 3) hx hb hts hinX1 hown hK hP 21 rfl rfl 2 (by decide) hfl18 (fun _ h9 => h9) rfl dX1_read_89 ?_
            refine va_put (D := (dC, dI)) (ci := 1) (v := .int (v 2)) (ty := .int) (C := RX1) (T := TX1) (N := 3) hx hb hts hinX1 tyX1 tyX1_ok nmX1 hown hK hP hD hS 21 rfl rfl 0 (by decide) hfl9 (fun _ h9 => h9) rfl (by decide +kernel) rfl rfl (Nat.le_of_ble_eq_true rfl) dX1_read_92 (fun H locs hP hD hS => ?_)
            have hP : va_P (dC, dI) vwCl (wX ad cI cZ z (uu v 1 (v 2)) f) H := hP
            have hD : va_D A (wX ad cI cZ z (uu v 1 (v 2)) f) := hD
            refine lv_aload_n hx hb dX1_read_95 rfl (lv_at hl 2 rfl) ?_
            have hFc := va_free (wc := (wX ad cI cZ z (uu v 1 (v 2)) f)) hD hS hA [0, 1, 2, 3, 4, 5, 6, 7, 8, 9, 10, 11, 12, 13, 14, 15, 16, 17, 18, 19, 20, 21] rfl
            refine va_callv (va_runV (As := []) (rest := []) ⟨hx, hb, hml, hown, hts⟩ (c_X1_restart l dC dI ad cI cZ z (uu v 1 (v 2)) f H.size hok) (cwV 0 hts gX1_read_X1_restart rfl rfl rfl (by decide +kernel) ⟨Nat.le_of_ble_eq_true rfl, Nat.le_of_ble_eq_true rfl⟩) (preXw (ci := 1) (q0 := 21) hP hK hN hD rfl rfl rfl) rfl rfl hl.1 rfl (lv_room (Nat.le_of_ble_eq_true rfl)) dX1_read_96 ⟨Nat.zero_le _, Nat.zero_le _⟩) hS (fun q _ h => hFc q h) hFc (fun u9 t9 H locs ht hvm hw hB hz1 hk1 hS => ?_)
            have hP : va_P (dC, dI) vwCl _ t9.heap := hB
            rw [ht] at hP
            have hP : va_P (dC, dI) vwCl (wX ad cI cZ (uu z 4 0) (uu (uu v 1 (v 2)) 2 0) f) H := hP
            have hD : va_D A (wX ad cI cZ (uu z 4 0) (uu (uu v 1 (v 2)) 2 0) f) := va_D.fst (ws := (wX ad cI cZ z (uu v 1 (v 2)) f)) rfl hD
            refine lv_iload_n hx hb dX1_read_99 rfl (lv_at hl 0 rfl) ?_
            refine lv_if_eq (tgt := 107) hx hb dX1_read_100 (by decide) (fun c9 => absurd c9 (by decide)) (fun _ => ?_)
            refine lv_iconst (v := 1) hx hb dX1_read_103 (by decide) ?_
            refine lv_goto (tgt := 108) hx hb dX1_read_104 (by decide) ?_
            subst hF
            subst hQ9
            exact W.iret (v := 1) hx hb hr (fun t9 ht hW => ⟨⟨1, (), rfl, rfl, by show va_P (dC, dI) vwCl _ t9.heap; rw [ht]; exact hP⟩, hS.F ht⟩) hS.2.2 dX1_read_108
      · have c4 : ¬ 6 ≤ z 4 := fun h9 => c4 ((nI_leI (a := 6) (b := z 4) (by omega) (by omega)).mpr h9)
        rw [if_neg c4] at hF
        refine lv_aload_n hx hb dX1_read_32 rfl (lv_at hl 1 rfl) ?_
        refine lv_aload_n hx hb dX1_read_33 rfl (lv_at hl 1 rfl) ?_
        refine va_get (D := (dC, dI)) (ci := 1) (v := .int (v 2)) (C := RX1) (T := TX1) (N := 3) hx hb hts hinX1 hown hK hP 21 rfl rfl 2 (by decide) hfl18 (fun _ h9 => h9) rfl dX1_read_34 ?_
        refine lv_bipush (v := 26) hx hb dX1_read_37 (by decide) ?_
        refine lv_imul hx hb dX1_read_39 ?_
        refine lv_iload_n hx hb dX1_read_40 rfl (lv_at hl 0 rfl) ?_
        refine lv_iadd hx hb dX1_read_41 ?_
        refine va_put (D := (dC, dI)) (ci := 1) (v := .int (((v 2) * 26) + (x - 65))) (ty := .int) (C := RX1) (T := TX1) (N := 3) hx hb hts hinX1 tyX1 tyX1_ok nmX1 hown hK hP hD hS 21 rfl rfl 2 (by decide) hfl18 (fun _ h9 => h9) rfl (by decide +kernel) rfl rfl (Nat.le_of_ble_eq_true rfl) dX1_read_42 (fun H locs hP hD hS => ?_)
        have hP : va_P (dC, dI) vwCl (wX ad cI cZ z (uu v 2 (((v 2) * 26) + (x - 65))) f) H := hP
        have hD : va_D A (wX ad cI cZ z (uu v 2 (((v 2) * 26) + (x - 65))) f) := hD
        refine lv_aload_n hx hb dX1_read_45 rfl (lv_at hl 1 rfl) ?_
        refine lv_aload_n hx hb dX1_read_46 rfl (lv_at hl 1 rfl) ?_
        refine va_get (D := (dC, dI)) (ci := 1) (v := .int (nI (z 4))) (C := RX1) (T := TX1) (N := 3) hx hb hts hinX1 hown hK hP 21 rfl rfl 1 (by decide) hfl15 (fun _ h9 => h9) rfl dX1_read_47 ?_
        refine lv_iconst (v := 1) hx hb dX1_read_50 (by decide) ?_
        refine lv_iadd hx hb dX1_read_51 ?_
        refine xe_top (nI_1 _) ?_
        refine va_put (D := (dC, dI)) (ci := 1) (v := .int (nI (z 4 + 1))) (ty := .int) (C := RX1) (T := TX1) (N := 3) hx hb hts hinX1 tyX1 tyX1_ok nmX1 hown hK hP hD hS 21 rfl rfl 1 (by decide) hfl15 (fun _ h9 => h9) rfl (by decide +kernel) rfl rfl (Nat.le_of_ble_eq_true rfl) dX1_read_52 (fun H locs hP hD hS => ?_)
        have hP : va_P (dC, dI) vwCl (wX ad cI cZ (uu z 4 (z 4 + 1)) (uu v 2 (((v 2) * 26) + (x - 65))) f) H := hP
        have hD : va_D A (wX ad cI cZ (uu z 4 (z 4 + 1)) (uu v 2 (((v 2) * 26) + (x - 65))) f) := hD
        refine lv_iconst (v := 0) hx hb dX1_read_55 (by decide) ?_
        subst hF
        subst hQ9
        exact W.iret (v := 0) hx hb hr (fun t9 ht hW => ⟨⟨0, (), rfl, rfl, by show va_P (dC, dI) vwCl _ t9.heap; rw [ht]; exact hP⟩, hS.F ht⟩) hS.2.2 dX1_read_56
    · rw [if_neg c3] at hF
      refine lv_aload_n hx hb dX1_read_12 rfl (lv_at hl 0 rfl) ?_
      have hFc := va_free (wc := (wX ad cI cZ z v f)) hD hS hA [0, 1, 2, 3, 4, 5, 6, 7, 8, 9, 10, 11, 12, 13, 14, 15, 16, 17, 18, 19, 20, 21] rfl
      refine va_callv (va_runV (As := []) (rest := []) ⟨hx, hb, hml, hown, hts⟩ (c_X1_restart l dC dI ad cI cZ z v f s.heap.size hok) (cwV 0 hts gX1_read_X1_restart rfl rfl rfl (by decide +kernel) ⟨Nat.le_of_ble_eq_true rfl, Nat.le_of_ble_eq_true rfl⟩) (preXw (ci := 1) (q0 := 21) hP hK hN hD rfl rfl rfl) rfl rfl hl.1 rfl (lv_room (Nat.le_of_ble_eq_true rfl)) dX1_read_13 ⟨Nat.zero_le _, Nat.zero_le _⟩) hS (fun q _ h => hFc q h) hFc (fun u9 t9 H locs ht hvm hw hB hz1 hk1 hS => ?_)
      have hP : va_P (dC, dI) vwCl _ t9.heap := hB
      rw [ht] at hP
      have hP : va_P (dC, dI) vwCl (wX ad cI cZ (uu z 4 0) (uu v 2 0) f) H := hP
      have hD : va_D A (wX ad cI cZ (uu z 4 0) (uu v 2 0) f) := va_D.fst (ws := (wX ad cI cZ z v f)) rfl hD
      refine lv_iconst (v := (-1)) hx hb dX1_read_16 (by decide) ?_
      subst hF
      subst hQ9
      exact W.iret (v := (-1)) hx hb hr (fun t9 ht hW => ⟨⟨(-1), (), rfl, rfl, by show va_P (dC, dI) vwCl _ t9.heap; rw [ht]; exact hP⟩, hS.F ht⟩) hS.2.2 dX1_read_17
def F_X4_check (z : Nat → Nat) (v : Nat → Int32) (f : Nat → Nat → Int32) (x : Int32) : Int32 × (Nat → Nat) × (Nat → Int32) × (Nat → Nat → Int32) :=
  ((F_X1_read z v f x).1, ((F_X1_read z v f x).2.1), ((F_X1_read z v f x).2.2.1), ((F_X1_read z v f x).2.2.2))
set_option maxHeartbeats 4000000 in
set_option maxRecDepth 100000 in
theorem c_X4_check (l : Launch) (dC : Nat → ClassId) (dI : Nat → Nat → Nat) (ad : Nat → Nat) (cI cZ : ClassId) (z : Nat → Nat) (v : Nat → Int32) (f : Nat → Nat → Int32) (sz : Nat) (x : Int32) (hok : okX z v f) : Met l yX4_check wsX4_check ({ frames := 3, cells := 0, slots := 0, locals := 68 }) (va_Pc [.ref (ad 0), .int x] (fun U => U.heap.size = sz ∧ va_D (fun _ => True) (wX ad cI cZ z v f) ∧ kX dC dI ad cI cZ z v f U)) (va_Qi (fun (r : Int32) (_ : Unit) => r = (F_X4_check z v f x).1) (fun _ U9 => va_P (dC, dI) vwCl (wX ad cI cZ ((F_X4_check z v f x).2.1) ((F_X4_check z v f x).2.2.1) ((F_X4_check z v f x).2.2.2)) U9.heap) (va_A (wX ad cI cZ z v f) sz)) 0 0 (va_A (wX ad cI cZ z v f) sz) := by
  refine Met.ofW (cc := cX4_check) (maxL := 2) (ret := (some .int)) (by decide) rfl ?_
  intro p e s m args below meth c s₁ B hml hv
  obtain ⟨rfl, hsz, hD0, hP, hK, hN⟩ := hv
  have hx := B.exec
  have hb := B.bytes
  have hr := B.returns
  have hts := atoms_spec (ws := wsX4_check) B.pre
  have hown : s.vm.findClass RX4 = some m.cls := findClass_of_methodNamed B.named
  have hlocks := B.notSynchronized
  have hok9 := hok
  obtain ⟨hz0, hz1, hz2, hz3, hz4, hbz, hbs⟩ := hok9
  have hfl62 := hts (.fieldLink RX4 62 "TraderRights" "reader" "LTraderRights$Reader;") (List.mem_of_getElem? (i := 1) rfl)
  have himX1_read := hts (.instanceMethod yX1_read) (List.mem_of_getElem? (i := 2) rfl)
  have hinX4 : ∀ w ∈ u_ws RX4 TX4 11, w ∈ wsX4_check := fun w h => List.mem_cons_of_mem _ (List.mem_append_left _ (List.mem_append_right _ h))
  have hiniX1 := hts (.initialized RX1) (List.mem_of_getElem? (i := 3) rfl)
  have hnw180 := hN (.methodLinkNest RX4 180 yX1_read "TraderRights") (by decide +kernel)
  have hseX1_read := hts (.selects RX1 yX1_read yX1_read) (List.mem_of_getElem? (i := 4) rfl)
  subst hsz
  have hD := hD0.self (sz := s.heap.size)
  generalize hAe : va_A (wX ad cI cZ z v f) s.heap.size = A at hD ⊢
  have hA : ∀ q : Nat, s.heap.size ≤ q → A q := fun q h => by rw [← hAe]; exact Or.inr h
  have hS : va_S A s.heap s.heap [] := va_S.rf
  have hl := lv_entry ([.ref (ad 0), .int x]) (n := 2) (Nat.le_of_ble_eq_true rfl)
  rw [lg_entry_eq]
  generalize (lg_sl ([.ref (ad 0), .int x]) ++ List.replicate (2 - (lg_sl ([.ref (ad 0), .int x])).length) Slot.unset).toArray = ls at hl ⊢
  have hl : lv_has ls 2 [(0, .ref (ad 0)), (1, .int x)] := hl
  generalize hF : F_X4_check z v f x = R9
  generalize hQ9 : MQ below _ _ s 0 0 A = Q9
  rw [F_X4_check] at hF
  refine lv_aload_n hx hb dX4_check_0 rfl (lv_at hl 0 rfl) ?_
  refine va_get (D := (dC, dI)) (ci := 4) (v := .ref (ad 21)) (C := RX4) (T := TX4) (N := 11) hx hb hts hinX4 hown hK hP 0 rfl rfl 10 (by decide) hfl62 (fun _ h9 => h9) rfl dX4_check_1 ?_
  refine lv_iload_n hx hb dX4_check_4 rfl (lv_at hl 1 rfl) ?_
  have hFc := va_free (wc := (wX ad cI cZ z v f)) hD hS hA [0, 1, 2, 3, 4, 5, 6, 7, 8, 9, 10, 11, 12, 13, 14, 15, 16, 17, 18, 19, 20, 21] rfl
  refine va_calli (va_runVN (As := [.int x]) (rest := []) ⟨hx, hb, hml, hown, hts⟩ (c_X1_read l dC dI ad cI cZ z v f s.heap.size x hok) ⟨(va_cnB 1 hts gX4_check_X1_read_n180 rfl rfl rfl hnw180 hiniX1 (by decide +kernel) ⟨Nat.le_of_ble_eq_true rfl, Nat.le_of_ble_eq_true rfl⟩), himX1_read, hseX1_read⟩ (preXw (ci := 1) (q0 := 21) hP hK hN hD rfl rfl rfl) rfl rfl hl.1 rfl (lv_room (Nat.le_of_ble_eq_true rfl)) dX4_check_5 ⟨Nat.zero_le _, Nat.zero_le _⟩) hS (fun q _ h => hFc q h) hFc (fun r1 u9 t9 H locs ht hvm hw hB hz1 hk1 hS => ?_)
  have hP : va_P (dC, dI) vwCl _ t9.heap := hB
  rw [ht] at hP
  have hr1 : r1 = (F_X1_read z v f x).1 := hw
  try rw [← hr1] at hF
  have hP : va_P (dC, dI) vwCl (wX ad cI cZ ((F_X1_read z v f x).2.1) ((F_X1_read z v f x).2.2.1) ((F_X1_read z v f x).2.2.2)) H := hP
  have hD : va_D A (wX ad cI cZ ((F_X1_read z v f x).2.1) ((F_X1_read z v f x).2.2.1) ((F_X1_read z v f x).2.2.2)) := va_D.fst (ws := (wX ad cI cZ z v f)) rfl hD
  subst hF
  subst hQ9
  exact W.iret (v := r1) hx hb hr (fun t9 ht hW => ⟨⟨r1, (), rfl, rfl, by show va_P (dC, dI) vwCl _ t9.heap; rw [ht]; exact hP⟩, hS.F ht⟩) hS.2.2 dX4_check_8
def F_X4_letter (z : Nat → Nat) (v : Nat → Int32) (f : Nat → Nat → Int32) (n i : Int32) : Nat × Int32 × (Nat → Nat) × (Nat → Int32) × (Nat → Nat → Int32) :=
  if n < 0 then
    (1, 0, z, v, f)
  else
    if n ≤ 99999999 then
      if i < 0 then
        (3, 0, z, v, f)
      else
        if i < 7 then
          if 6 ≤ i then
            (0, 65 + (F_X4_checkValue n), z, v, f)
          else
            (0, 65 + (F_X4_digit n i), z, v, f)
        else
          (3, 0, z, v, f)
    else
      (1, 0, z, v, f)
set_option maxHeartbeats 4000000 in
set_option maxRecDepth 100000 in
theorem c_X4_letter (l : Launch) (dC : Nat → ClassId) (dI : Nat → Nat → Nat) (ad : Nat → Nat) (cI cZ : ClassId) (z : Nat → Nat) (v : Nat → Int32) (f : Nat → Nat → Int32) (sz : Nat) (n i : Int32) (hok : okX z v f) (hlt : l.stackTraces = false) : vx_Met l yX4_letter wsX4_letter ({ frames := 6, cells := 1, slots := 6, locals := 82 }) (va_Pc [.ref (ad 0), .int n, .int i] (fun U => U.heap.size = sz ∧ va_D (fun _ => True) (wX ad cI cZ z v f) ∧ kX dC dI ad cI cZ z v f U ∧ tW (va_A (wX ad cI cZ z v f) sz) U)) (va_Qi (fun (r : Int32) (_ : Unit) => (F_X4_letter z v f n i).1 = 0 ∧ r = (F_X4_letter z v f n i).2.1) (fun _ U9 => va_P (dC, dI) vwCl (wX ad cI cZ ((F_X4_letter z v f n i).2.2.1) ((F_X4_letter z v f n i).2.2.2.1) ((F_X4_letter z v f n i).2.2.2.2)) U9.heap) (va_A (wX ad cI cZ z v f) sz)) (vx_X (fun _ : Unit => True) (fun E _ U9 => E = exN (F_X4_letter z v f n i).1 ∧ ¬ (F_X4_letter z v f n i).1 = 0 ∧ va_P (dC, dI) vwCl (wX ad cI cZ z v f) U9.heap) (va_A (wX ad cI cZ z v f) sz)) 1 6 (va_A (wX ad cI cZ z v f) sz) := by
  refine vx_ofW (cc := cX4_letter) (maxL := 3) (ret := (some .int)) (by decide) rfl ?_
  intro p e s m args below meth c s₁ B hml hexc hv
  obtain ⟨rfl, hsz, hD0, ⟨hP, hK, hN⟩, hT⟩ := hv
  have hx := B.exec
  have hb := B.bytes
  have hr := B.returns
  have hts := atoms_spec (ws := wsX4_letter) B.pre
  have hown : s.vm.findClass RX4 = some m.cls := findClass_of_methodNamed B.named
  have hlocks := B.notSynchronized
  have hok9 := hok
  obtain ⟨hz0, hz1, hz2, hz3, hz4, hbz, hbs⟩ := hok9
  have hat173 : ∀ w ∈ vx_atS RX4 173 "java/lang/IndexOutOfBoundsException" ["java/lang/RuntimeException", "java/lang/Exception"], w.before _ s = true := vx_hat (B := badL) (fun w hw => hts w ((fun w h => List.mem_cons_of_mem _ (List.mem_append_right _ h)) w hw)) at_bad173 (fun w hw => va_Nw.use (bad_tab (badL_all w hw)) (hT.2.2.2 w hw))
  have hat87 : ∀ w ∈ vx_atS RX4 87 "java/lang/IllegalArgumentException" ["java/lang/RuntimeException", "java/lang/Exception"], w.before _ s = true := vx_hat (B := badL) (fun w hw => hts w ((fun w h => List.mem_cons_of_mem _ (List.mem_append_left _ (List.mem_append_right _ h))) w hw)) at_bad87 (fun w hw => va_Nw.use (bad_tab (badL_all w hw)) (hT.2.2.2 w hw))
  have hck169 := hts (.classLink RX4 169 "java/lang/IndexOutOfBoundsException") (List.mem_of_getElem? (i := 3) rfl)
  have hck83 := hts (.classLink RX4 83 "java/lang/IllegalArgumentException") (List.mem_of_getElem? (i := 1) rfl)
  have hcn166 := hts (.constant RX4 166 (99999999)) (List.mem_of_getElem? (i := 5) rfl)
  have hei169 := hts (.initialized "java/lang/IndexOutOfBoundsException") (List.mem_of_getElem? (i := 4) rfl)
  have hei83 := hts (.initialized "java/lang/IllegalArgumentException") (List.mem_of_getElem? (i := 2) rfl)
  subst hsz
  have hD := hD0.self (sz := s.heap.size)
  generalize hAe : va_A (wX ad cI cZ z v f) s.heap.size = A at hD hT ⊢
  have hA : ∀ q : Nat, s.heap.size ≤ q → A q := fun q h => by rw [← hAe]; exact Or.inr h
  have hS : va_S A s.heap s.heap [] := va_S.rf
  have hl := lv_entry ([.ref (ad 0), .int n, .int i]) (n := 3) (Nat.le_of_ble_eq_true rfl)
  rw [lg_entry_eq]
  generalize (lg_sl ([.ref (ad 0), .int n, .int i]) ++ List.replicate (3 - (lg_sl ([.ref (ad 0), .int n, .int i])).length) Slot.unset).toArray = ls at hl ⊢
  have hl : lv_has ls 3 [(0, .ref (ad 0)), (1, .int n), (2, .int i)] := hl
  generalize hF : F_X4_letter z v f n i = R9
  generalize hQ9 : vx_MQ below _ _ _ s 1 6 A = Q9
  rw [F_X4_letter] at hF
  refine lv_iload_n hx hb dX4_letter_0 rfl (lv_at hl 1 rfl) ?_
  refine lv_if_lt (tgt := 10) hx hb dX4_letter_1 (by decide) (fun c1 => ?_) (fun c1 => ?_)
  · rw [if_pos c1] at hF
    subst hF
    subst hQ9
    obtain ⟨sa9, hstr9⟩ := hT.2.2.1 (167, "no such number") (by decide +kernel)
    exact vx_throwS (cls := "java/lang/IllegalArgumentException") (names := ["java/lang/RuntimeException", "java/lang/Exception"]) hx hb hlt hown (by decide +kernel) (by decide +kernel) hck83 hei83 hstr9 hat87 ot87 hT.1 hT.2.1 hS (by rw [hml]; exact hl.1) dX4_letter_10 dX4_letter_13 dX4_letter_14 dX4_letter_16 dX4_letter_19 (fun x h => (hexc x h).elim) (by decide) (by decide) (by decide) (by decide) hlocks (fun t9 hal hsz hkp => ⟨(), trivial, ⟨rfl, by show ¬ (1 : Nat) = 0; decide, hP.kept (fun k q hq => hkp _ (hP k q hq).lt)⟩, ⟨Nat.le_trans hS.1 hsz, fun q h1 h2 => (hkp q (Nat.lt_of_lt_of_le h1 hS.1)).trans (hS.2.1 q h1 h2)⟩⟩) hS.2.2 (by decide) (by decide)
  · rw [if_neg c1] at hF
    refine lv_iload_n hx hb dX4_letter_4 rfl (lv_at hl 1 rfl) ?_
    refine lv_ldc (v := 99999999) hx hb hown hcn166 dX4_letter_5 ?_
    refine lv_icmp_le (tgt := 20) hx hb dX4_letter_7 (by decide) (fun c2 => ?_) (fun c2 => ?_)
    · rw [if_pos c2] at hF
      refine lv_iload_n hx hb dX4_letter_20 rfl (lv_at hl 2 rfl) ?_
      refine lv_if_lt (tgt := 30) hx hb dX4_letter_21 (by decide) (fun c3 => ?_) (fun c3 => ?_)
      · rw [if_pos c3] at hF
        subst hF
        subst hQ9
        obtain ⟨sa9, hstr9⟩ := hT.2.2.1 (171, "no such letter") (by decide +kernel)
        exact vx_throwS (cls := "java/lang/IndexOutOfBoundsException") (names := ["java/lang/RuntimeException", "java/lang/Exception"]) hx hb hlt hown (by decide +kernel) (by decide +kernel) hck169 hei169 hstr9 hat173 ot173 hT.1 hT.2.1 hS (by rw [hml]; exact hl.1) dX4_letter_30 dX4_letter_33 dX4_letter_34 dX4_letter_36 dX4_letter_39 (fun x h => (hexc x h).elim) (by decide) (by decide) (by decide) (by decide) hlocks (fun t9 hal hsz hkp => ⟨(), trivial, ⟨rfl, by show ¬ (3 : Nat) = 0; decide, hP.kept (fun k q hq => hkp _ (hP k q hq).lt)⟩, ⟨Nat.le_trans hS.1 hsz, fun q h1 h2 => (hkp q (Nat.lt_of_lt_of_le h1 hS.1)).trans (hS.2.1 q h1 h2)⟩⟩) hS.2.2 (by decide) (by decide)
      · rw [if_neg c3] at hF
        refine lv_iload_n hx hb dX4_letter_24 rfl (lv_at hl 2 rfl) ?_
        refine lv_bipush (v := 7) hx hb dX4_letter_25 (by decide) ?_
        refine lv_icmp_lt (tgt := 40) hx hb dX4_letter_27 (by decide) (fun c4 => ?_) (fun c4 => ?_)
        · rw [if_pos c4] at hF
          refine lv_bipush (v := 65) hx hb dX4_letter_40 (by decide) ?_
          refine lv_iload_n hx hb dX4_letter_42 rfl (lv_at hl 2 rfl) ?_
          refine lv_bipush (v := 6) hx hb dX4_letter_43 (by decide) ?_
          refine lv_icmp_ge (tgt := 56) hx hb dX4_letter_45 (by decide) (fun c5 => ?_) (fun c5 => ?_)
          · rw [if_pos c5] at hF
            refine lv_iload_n hx hb dX4_letter_56 rfl (lv_at hl 1 rfl) ?_
            refine vp_callSi (W.runS (As := [.int n]) (rest := [.int 65]) ⟨hx, hb, hml, hown, hts⟩ (c_X4_checkValue l n) (cwS 1 hts gX4_letter_X4_checkValue rfl rfl rfl (by decide +kernel) ⟨Nat.le_of_ble_eq_true rfl, Nat.le_of_ble_eq_true rfl⟩) preT rfl rfl hl.1 rfl (lv_room (Nat.le_of_ble_eq_true rfl)) dX4_letter_57 ⟨Nat.zero_le _, Nat.zero_le _⟩) (fun r6 h9 => ?_)
            have hr6 : r6 = F_X4_checkValue n := h9
            try rw [← hr6] at hF
            refine lv_iadd hx hb dX4_letter_60 ?_
            subst hF
            subst hQ9
            refine vx_ret ?_
            refine W.widen (k := 1) (n := 6) (by decide) (by decide) ?_
            exact W.iret (v := 65 + r6) hx hb hr (fun t9 ht hW => ⟨⟨(65 + r6), (), rfl, ⟨rfl, rfl⟩, by show va_P (dC, dI) vwCl _ t9.heap; rw [ht]; exact hP⟩, hS.F ht⟩) hS.2.2 dX4_letter_61
          · rw [if_neg c5] at hF
            refine lv_iload_n hx hb dX4_letter_48 rfl (lv_at hl 1 rfl) ?_
            refine lv_iload_n hx hb dX4_letter_49 rfl (lv_at hl 2 rfl) ?_
            refine vp_callSi (W.runS (As := [.int n, .int i]) (rest := [.int 65]) ⟨hx, hb, hml, hown, hts⟩ (c_X4_digit l n i (nn_of c3)) (cwS 2 hts gX4_letter_X4_digit rfl rfl rfl (by decide +kernel) ⟨Nat.le_of_ble_eq_true rfl, Nat.le_of_ble_eq_true rfl⟩) preT rfl rfl hl.1 rfl (lv_room (Nat.le_of_ble_eq_true rfl)) dX4_letter_50 ⟨Nat.zero_le _, Nat.zero_le _⟩) (fun r7 h9 => ?_)
            have hr7 : r7 = F_X4_digit n i := h9
            try rw [← hr7] at hF
            refine lv_goto (tgt := 60) hx hb dX4_letter_53 (by decide) ?_
            refine lv_iadd hx hb dX4_letter_60 ?_
            subst hF
            subst hQ9
            refine vx_ret ?_
            refine W.widen (k := 1) (n := 6) (by decide) (by decide) ?_
            exact W.iret (v := 65 + r7) hx hb hr (fun t9 ht hW => ⟨⟨(65 + r7), (), rfl, ⟨rfl, rfl⟩, by show va_P (dC, dI) vwCl _ t9.heap; rw [ht]; exact hP⟩, hS.F ht⟩) hS.2.2 dX4_letter_61
        · rw [if_neg c4] at hF
          subst hF
          subst hQ9
          obtain ⟨sa9, hstr9⟩ := hT.2.2.1 (171, "no such letter") (by decide +kernel)
          exact vx_throwS (cls := "java/lang/IndexOutOfBoundsException") (names := ["java/lang/RuntimeException", "java/lang/Exception"]) hx hb hlt hown (by decide +kernel) (by decide +kernel) hck169 hei169 hstr9 hat173 ot173 hT.1 hT.2.1 hS (by rw [hml]; exact hl.1) dX4_letter_30 dX4_letter_33 dX4_letter_34 dX4_letter_36 dX4_letter_39 (fun x h => (hexc x h).elim) (by decide) (by decide) (by decide) (by decide) hlocks (fun t9 hal hsz hkp => ⟨(), trivial, ⟨rfl, by show ¬ (3 : Nat) = 0; decide, hP.kept (fun k q hq => hkp _ (hP k q hq).lt)⟩, ⟨Nat.le_trans hS.1 hsz, fun q h1 h2 => (hkp q (Nat.lt_of_lt_of_le h1 hS.1)).trans (hS.2.1 q h1 h2)⟩⟩) hS.2.2 (by decide) (by decide)
    · rw [if_neg c2] at hF
      subst hF
      subst hQ9
      obtain ⟨sa9, hstr9⟩ := hT.2.2.1 (167, "no such number") (by decide +kernel)
      exact vx_throwS (cls := "java/lang/IllegalArgumentException") (names := ["java/lang/RuntimeException", "java/lang/Exception"]) hx hb hlt hown (by decide +kernel) (by decide +kernel) hck83 hei83 hstr9 hat87 ot87 hT.1 hT.2.1 hS (by rw [hml]; exact hl.1) dX4_letter_10 dX4_letter_13 dX4_letter_14 dX4_letter_16 dX4_letter_19 (fun x h => (hexc x h).elim) (by decide) (by decide) (by decide) (by decide) hlocks (fun t9 hal hsz hkp => ⟨(), trivial, ⟨rfl, by show ¬ (1 : Nat) = 0; decide, hP.kept (fun k q hq => hkp _ (hP k q hq).lt)⟩, ⟨Nat.le_trans hS.1 hsz, fun q h1 h2 => (hkp q (Nat.lt_of_lt_of_le h1 hS.1)).trans (hS.2.1 q h1 h2)⟩⟩) hS.2.2 (by decide) (by decide)
