def F_X5_in (x a b : Int32) : Int32 :=
  if x < a then
    0
  else
    if b < x then
      0
    else
      1
set_option maxHeartbeats 4000000 in
set_option maxRecDepth 100000 in
theorem c_X5_in (l : Launch) (x a b : Int32) : Met l yX5_in wsX5_in ({ frames := 0, cells := 0, slots := 0, locals := 0 }) (va_Pc [.int x, .int a, .int b] (fun _ => True)) (vp_Si (fun r => r = F_X5_in x a b)) 0 0 (fun _ => False) := by
  refine Met.ofW (cc := cX5_in) (maxL := 3) (ret := (some .boolean)) (by decide) rfl ?_
  intro p e s m args below meth c s₁ B hml hv
  obtain ⟨rfl, -⟩ := hv
  have hx := B.exec
  have hb := B.bytes
  have hr := B.returns
  have hts := atoms_spec (ws := wsX5_in) B.pre
  have hown : s.vm.findClass RX5 = some m.cls := findClass_of_methodNamed B.named
  have hlocks := B.notSynchronized
  have hl := lv_entry ([.int x, .int a, .int b]) (n := 3) (Nat.le_of_ble_eq_true rfl)
  rw [lg_entry_eq]
  generalize (lg_sl ([.int x, .int a, .int b]) ++ List.replicate (3 - (lg_sl ([.int x, .int a, .int b])).length) Slot.unset).toArray = ls at hl ⊢
  have hl : lv_has ls 3 [(0, .int x), (1, .int a), (2, .int b)] := hl
  generalize hF : F_X5_in x a b = R9
  generalize hQ9 : MQ below (vp_Si (fun r => r = R9)) _ s 0 0 (fun _ => False) = Q9
  rw [F_X5_in] at hF
  refine lv_iload_n hx hb dX5_in_0 rfl (lv_at hl 0 rfl) ?_
  refine lv_iload_n hx hb dX5_in_1 rfl (lv_at hl 1 rfl) ?_
  refine lv_icmp_lt (tgt := 14) hx hb dX5_in_2 (by decide) (fun c1 => ?_) (fun c1 => ?_)
  · rw [if_pos c1] at hF
    refine lv_iconst (v := 0) hx hb dX5_in_14 (by decide) ?_
    subst hQ9
    exact W.zret (ty := .boolean) hx hb hr rfl (fun t ht hW => ⟨_, rfl, hF, ht⟩) (fun q h => by cases h) dX5_in_15
  · rw [if_neg c1] at hF
    refine lv_iload_n hx hb dX5_in_5 rfl (lv_at hl 0 rfl) ?_
    refine lv_iload_n hx hb dX5_in_6 rfl (lv_at hl 2 rfl) ?_
    refine lv_icmp_gt (tgt := 14) hx hb dX5_in_7 (by decide) (fun c2 => ?_) (fun c2 => ?_)
    · rw [if_pos c2] at hF
      refine lv_iconst (v := 0) hx hb dX5_in_14 (by decide) ?_
      subst hQ9
      exact W.zret (ty := .boolean) hx hb hr rfl (fun t ht hW => ⟨_, rfl, hF, ht⟩) (fun q h => by cases h) dX5_in_15
    · rw [if_neg c2] at hF
      refine lv_iconst (v := 1) hx hb dX5_in_10 (by decide) ?_
      refine lv_goto (tgt := 15) hx hb dX5_in_11 (by decide) ?_
      subst hQ9
      exact W.zret (ty := .boolean) hx hb hr rfl (fun t ht hW => ⟨_, rfl, hF, ht⟩) (fun q h => by cases h) dX5_in_15
theorem zB_in (x a b : Int32) : zB (F_X5_in x a b) := by
  rw [F_X5_in]; repeat' split
  all_goals first | exact zB_0 | exact zB_1
def F_X5_isDay (a : Int32) : Int32 :=
  F_X5_in a 0 100000
set_option maxHeartbeats 4000000 in
set_option maxRecDepth 100000 in
theorem c_X5_isDay (l : Launch) (a : Int32) : Met l yX5_isDay wsX5_isDay ({ frames := 1, cells := 0, slots := 0, locals := 22 }) (va_Pc [.int a] (fun _ => True)) (vp_Si (fun r => r = F_X5_isDay a)) 0 0 (fun _ => False) := by
  refine Met.ofW (cc := cX5_isDay) (maxL := 1) (ret := (some .boolean)) (by decide) rfl ?_
  intro p e s m args below meth c s₁ B hml hv
  obtain ⟨rfl, -⟩ := hv
  have hx := B.exec
  have hb := B.bytes
  have hr := B.returns
  have hts := atoms_spec (ws := wsX5_isDay) B.pre
  have hown : s.vm.findClass RX5 = some m.cls := findClass_of_methodNamed B.named
  have hlocks := B.notSynchronized
  have hcn72 := hts (.constant RX5 72 (100000)) (List.mem_of_getElem? (i := 1) rfl)
  have hl := lv_entry ([.int a]) (n := 1) (Nat.le_of_ble_eq_true rfl)
  rw [lg_entry_eq]
  generalize (lg_sl ([.int a]) ++ List.replicate (1 - (lg_sl ([.int a])).length) Slot.unset).toArray = ls at hl ⊢
  have hl : lv_has ls 1 [(0, .int a)] := hl
  generalize hF : F_X5_isDay a = R9
  generalize hQ9 : MQ below (vp_Si (fun r => r = R9)) _ s 0 0 (fun _ => False) = Q9
  rw [F_X5_isDay] at hF
  refine lv_iload_n hx hb dX5_isDay_0 rfl (lv_at hl 0 rfl) ?_
  refine lv_iconst (v := 0) hx hb dX5_isDay_1 (by decide) ?_
  refine lv_ldc (v := 100000) hx hb hown hcn72 dX5_isDay_2 ?_
  refine vp_callSi (W.runS (As := [.int a, .int 0, .int 100000]) (rest := []) ⟨hx, hb, hml, hown, hts⟩ (c_X5_in l a 0 100000) (cwS 3 hts gX5_isDay_X5_in rfl rfl rfl (by decide +kernel) ⟨Nat.le_of_ble_eq_true rfl, Nat.le_of_ble_eq_true rfl⟩) preT rfl rfl hl.1 rfl (lv_room (Nat.le_of_ble_eq_true rfl)) dX5_isDay_4 ⟨Nat.zero_le _, Nat.zero_le _⟩) (fun r1 h9 => ?_)
  have hr1 : r1 = F_X5_in a 0 100000 := h9
  try rw [← hr1] at hF
  subst hQ9
  exact W.zret (ty := .boolean) hx hb hr (by rw [hr1]; exact (zB_in _ _ _)) (fun t ht hW => ⟨_, rfl, hF, ht⟩) (fun q h => by cases h) dX5_isDay_7
def F_X5_isEight (a : Int32) : Int32 :=
  F_X5_in a 0 7
set_option maxHeartbeats 4000000 in
set_option maxRecDepth 100000 in
theorem c_X5_isEight (l : Launch) (a : Int32) : Met l yX5_isEight wsX5_isEight ({ frames := 1, cells := 0, slots := 0, locals := 22 }) (va_Pc [.int a] (fun _ => True)) (vp_Si (fun r => r = F_X5_isEight a)) 0 0 (fun _ => False) := by
  refine Met.ofW (cc := cX5_isEight) (maxL := 1) (ret := (some .boolean)) (by decide) rfl ?_
  intro p e s m args below meth c s₁ B hml hv
  obtain ⟨rfl, -⟩ := hv
  have hx := B.exec
  have hb := B.bytes
  have hr := B.returns
  have hts := atoms_spec (ws := wsX5_isEight) B.pre
  have hown : s.vm.findClass RX5 = some m.cls := findClass_of_methodNamed B.named
  have hlocks := B.notSynchronized
  have hl := lv_entry ([.int a]) (n := 1) (Nat.le_of_ble_eq_true rfl)
  rw [lg_entry_eq]
  generalize (lg_sl ([.int a]) ++ List.replicate (1 - (lg_sl ([.int a])).length) Slot.unset).toArray = ls at hl ⊢
  have hl : lv_has ls 1 [(0, .int a)] := hl
  generalize hF : F_X5_isEight a = R9
  generalize hQ9 : MQ below (vp_Si (fun r => r = R9)) _ s 0 0 (fun _ => False) = Q9
  rw [F_X5_isEight] at hF
  refine lv_iload_n hx hb dX5_isEight_0 rfl (lv_at hl 0 rfl) ?_
  refine lv_iconst (v := 0) hx hb dX5_isEight_1 (by decide) ?_
  refine lv_bipush (v := 7) hx hb dX5_isEight_2 (by decide) ?_
  refine vp_callSi (W.runS (As := [.int a, .int 0, .int 7]) (rest := []) ⟨hx, hb, hml, hown, hts⟩ (c_X5_in l a 0 7) (cwS 3 hts gX5_isEight_X5_in rfl rfl rfl (by decide +kernel) ⟨Nat.le_of_ble_eq_true rfl, Nat.le_of_ble_eq_true rfl⟩) preT rfl rfl hl.1 rfl (lv_room (Nat.le_of_ble_eq_true rfl)) dX5_isEight_4 ⟨Nat.zero_le _, Nat.zero_le _⟩) (fun r1 h9 => ?_)
  have hr1 : r1 = F_X5_in a 0 7 := h9
  try rw [← hr1] at hF
  subst hQ9
  exact W.zret (ty := .boolean) hx hb hr (by rw [hr1]; exact (zB_in _ _ _)) (fun t ht hW => ⟨_, rfl, hF, ht⟩) (fun q h => by cases h) dX5_isEight_7
def F_X5_bits_L4 (x : Int32)  : Nat → Int32 → Nat → Int32
  | 0, nb, k => nb
  | n4 + 1, nb, k =>
    if 12 ≤ k then
      nb
    else
      F_X5_bits_L4 x n4 (nb + ((x >>> ((nI k) &&& 31)) &&& 1)) (k + 1)
def F_X5_bits (x : Int32) : Int32 :=
  (F_X5_bits_L4 x (12 + 1) 0 0)
set_option maxHeartbeats 4000000 in
set_option maxRecDepth 100000 in
theorem c_X5_bits (l : Launch) (x : Int32) : Met l yX5_bits wsX5_bits ({ frames := 0, cells := 0, slots := 0, locals := 0 }) (va_Pc [.int x] (fun _ => True)) (vp_Si (fun r => r = F_X5_bits x)) 0 0 (fun _ => False) := by
  refine Met.ofW (cc := cX5_bits) (maxL := 3) (ret := (some .int)) (by decide) rfl ?_
  intro p e s m args below meth c s₁ B hml hv
  obtain ⟨rfl, -⟩ := hv
  have hx := B.exec
  have hb := B.bytes
  have hr := B.returns
  have hts := atoms_spec (ws := wsX5_bits) B.pre
  have hown : s.vm.findClass RX5 = some m.cls := findClass_of_methodNamed B.named
  have hlocks := B.notSynchronized
  have hl := lv_entry ([.int x]) (n := 3) (Nat.le_of_ble_eq_true rfl)
  rw [lg_entry_eq]
  generalize (lg_sl ([.int x]) ++ List.replicate (3 - (lg_sl ([.int x])).length) Slot.unset).toArray = ls at hl ⊢
  have hl : lv_has ls 3 [(0, .int x)] := hl
  generalize hF : F_X5_bits x = R9
  generalize hQ9 : MQ below (vp_Si (fun r => r = R9)) _ s 0 0 (fun _ => False) = Q9
  rw [F_X5_bits] at hF
  refine lv_iconst (v := 0) hx hb dX5_bits_0 (by decide) ?_
  refine lv_istore_n (lv' := [(1, .int 0), (0, .int x)]) hx hb dX5_bits_1 rfl hl (by decide) rfl (fun ls hl => ?_)
  refine lv_iconst (v := 0) hx hb dX5_bits_2 (by decide) ?_
  refine lv_istore_n (lv' := [(2, .int 0), (1, .int 0), (0, .int x)]) hx hb dX5_bits_3 rfl hl (by decide) rfl (fun ls hl => ?_)
  have lp4 : ∀ (n4 : Nat) (nb : Int32) (k : Nat) (ls : Array Slot), k ≤ 12 → 12 < k + n4 → lv_has ls 3 [(0, .int x), (1, .int nb), (2, .int (nI k))] → (∀ ls : Array Slot, lv_has ls 3 [(0, .int x), (1, .int (F_X5_bits_L4 x n4 nb k))] → W p l e (headSpec wsX5_bits ({ frames := 0, cells := 0, slots := 0, locals := 0 })).room s m ([.int x] : List Value).toArray below meth c s.heap [] 0 0 Q9 (F0 m 24 ls [])) → W p l e (headSpec wsX5_bits ({ frames := 0, cells := 0, slots := 0, locals := 0 })).room s m ([.int x] : List Value).toArray below meth c s.heap [] 0 0 Q9 (F0 m 4 ls []) := by
    intro n4
    induction n4 with
    | zero =>
      intro nb k ls hk4 hn4
      exact absurd hn4 (by omega)
    | succ n4 ih4 =>
      intro nb k ls hk4 hn4 hl hq4
      generalize hF4 : F_X5_bits_L4 x (n4 + 1) nb k = R4 at hq4
      rw [F_X5_bits_L4] at hF4
      refine lv_iload_n hx hb dX5_bits_4 rfl (lv_at hl 2 rfl) ?_
      refine lv_bipush (v := 12) hx hb dX5_bits_5 (by decide) ?_
      refine lv_icmp_ge (tgt := 24) hx hb dX5_bits_7 (by decide) (fun c1 => ?_) (fun c1 => ?_)
      · have c1 : 12 ≤ k := (nI_leI (a := 12) (b := k) (by omega) (by omega)).mp c1
        rw [if_pos c1] at hF4
        subst hF4
        exact hq4 ls (lv_sub hl [0, 1] rfl)
      · have c1 : ¬ 12 ≤ k := fun h9 => c1 ((nI_leI (a := 12) (b := k) (by omega) (by omega)).mpr h9)
        rw [if_neg c1] at hF4
        refine lv_iload_n hx hb dX5_bits_10 rfl (lv_at hl 1 rfl) ?_
        refine lv_iload_n hx hb dX5_bits_11 rfl (lv_at hl 0 rfl) ?_
        refine lv_iload_n hx hb dX5_bits_12 rfl (lv_at hl 2 rfl) ?_
        refine lv_ishr hx hb dX5_bits_13 ?_
        refine lv_iconst (v := 1) hx hb dX5_bits_14 (by decide) ?_
        refine lv_iand hx hb dX5_bits_15 ?_
        refine lv_iadd hx hb dX5_bits_16 ?_
        refine lv_istore_n (lv' := [(1, .int (nb + ((x >>> ((nI k) &&& 31)) &&& 1))), (0, .int x), (2, .int (nI k))]) hx hb dX5_bits_17 rfl hl (by decide) rfl (fun ls hl => ?_)
        refine lv_iinc (v := nI (k + 1)) (lv' := [(2, .int (nI (k + 1))), (1, .int (nb + ((x >>> ((nI k) &&& 31)) &&& 1))), (0, .int x)]) hx hb dX5_bits_18 hl (k := 2) rfl (xi_inc _) (by decide) rfl (fun ls hl => ?_)
        refine lv_goto (tgt := 4) hx hb dX5_bits_21 (by decide) ?_
        exact ih4 (nb + ((x >>> ((nI k) &&& 31)) &&& 1)) (k + 1) ls (by omega) (by omega) (lv_sub hl [2, 1, 0] rfl) (by rw [hF4]; exact hq4)
  refine lp4 (12 + 1) 0 0 ls (by omega) (by omega) (lv_sub hl [2, 1, 0] rfl) (fun ls hl => ?_)
  obtain ⟨r2, hr2⟩ : ∃ y, y = (F_X5_bits_L4 x (12 + 1) 0 0) := ⟨_, rfl⟩
  rw [← hr2] at hl
  try rw [← hr2] at hF
  refine lv_iload_n hx hb dX5_bits_24 rfl (lv_at hl 1 rfl) ?_
  subst hQ9
  exact W.iret hx hb hr (fun t ht hW => ⟨_, rfl, hF, ht⟩) (fun q h => by cases h) dX5_bits_25
def F_X5_isTrader (z : Nat → Nat) (v : Nat → Int32) (f : Nat → Nat → Int32) (t : Int32) : Int32 :=
  if t < 0 then
    0
  else
    if nI (z 0) ≤ t then
      0
    else
      1
set_option maxHeartbeats 4000000 in
set_option maxRecDepth 100000 in
theorem c_X5_isTrader (l : Launch) (dC : Nat → ClassId) (dI : Nat → Nat → Nat) (am : Nat → Nat) (cI cZ : ClassId) (th : Int32) (z : Nat → Nat) (v : Nat → Int32) (f : Nat → Nat → Int32) (t : Int32) (hok : okM z v f) : Met l yX5_isTrader wsX5_isTrader ({ frames := 0, cells := 0, slots := 0, locals := 0 }) (va_Pc [.ref (am 0), .int t] (kM dC dI am cI cZ th z v f)) (vp_Si (fun r => r = F_X5_isTrader z v f t)) 0 0 (fun _ => False) := by
  refine Met.ofW (cc := cX5_isTrader) (maxL := 2) (ret := (some .boolean)) (by decide) rfl ?_
  intro p e s m args below meth c s₁ B hml hv
  obtain ⟨rfl, hP, hK, hN⟩ := hv
  have hx := B.exec
  have hb := B.bytes
  have hr := B.returns
  have hts := atoms_spec (ws := wsX5_isTrader) B.pre
  have hown : s.vm.findClass RX5 = some m.cls := findClass_of_methodNamed B.named
  have hlocks := B.notSynchronized
  have hok9 := hok
  obtain ⟨hz0, hz1, hz2, hz3, hz4, hbz, hbs, hdp, hgv⟩ := hok9
  have hfl69 := hts (.fieldLink RX5 69 "TraderRightsModel" "traders" "I") (List.mem_of_getElem? (i := 1) rfl)
  have hinX5 : ∀ w ∈ u_ws RX5 TX5 25, w ∈ wsX5_isTrader := fun w h => List.mem_cons_of_mem _ (List.mem_append_right _ h)
  have hl := lv_entry ([.ref (am 0), .int t]) (n := 2) (Nat.le_of_ble_eq_true rfl)
  rw [lg_entry_eq]
  generalize (lg_sl ([.ref (am 0), .int t]) ++ List.replicate (2 - (lg_sl ([.ref (am 0), .int t])).length) Slot.unset).toArray = ls at hl ⊢
  have hl : lv_has ls 2 [(0, .ref (am 0)), (1, .int t)] := hl
  generalize hF : F_X5_isTrader z v f t = R9
  generalize hQ9 : MQ below (vp_Si (fun r => r = R9)) _ s 0 0 (fun _ => False) = Q9
  rw [F_X5_isTrader] at hF
  refine lv_iload_n hx hb dX5_isTrader_0 rfl (lv_at hl 1 rfl) ?_
  refine lv_if_lt (tgt := 16) hx hb dX5_isTrader_1 (by decide) (fun c1 => ?_) (fun c1 => ?_)
  · rw [if_pos c1] at hF
    refine lv_iconst (v := 0) hx hb dX5_isTrader_16 (by decide) ?_
    subst hQ9
    exact W.zret (ty := .boolean) hx hb hr rfl (fun t ht hW => ⟨_, rfl, hF, ht⟩) (fun q h => by cases h) dX5_isTrader_17
  · rw [if_neg c1] at hF
    refine lv_iload_n hx hb dX5_isTrader_4 rfl (lv_at hl 1 rfl) ?_
    refine lv_aload_n hx hb dX5_isTrader_5 rfl (lv_at hl 0 rfl) ?_
    refine va_get (D := (dC, dI)) (ci := 5) (v := .int (nI (z 0))) (C := RX5) (T := TX5) (N := 25) hx hb hts hinX5 hown hK hP 0 rfl rfl 1 (by decide) hfl69 (fun _ h9 => h9) rfl dX5_isTrader_6 ?_
    refine lv_icmp_ge (tgt := 16) hx hb dX5_isTrader_9 (by decide) (fun c2 => ?_) (fun c2 => ?_)
    · rw [if_pos c2] at hF
      refine lv_iconst (v := 0) hx hb dX5_isTrader_16 (by decide) ?_
      subst hQ9
      exact W.zret (ty := .boolean) hx hb hr rfl (fun t ht hW => ⟨_, rfl, hF, ht⟩) (fun q h => by cases h) dX5_isTrader_17
    · rw [if_neg c2] at hF
      refine lv_iconst (v := 1) hx hb dX5_isTrader_12 (by decide) ?_
      refine lv_goto (tgt := 17) hx hb dX5_isTrader_13 (by decide) ?_
      subst hQ9
      exact W.zret (ty := .boolean) hx hb hr rfl (fun t ht hW => ⟨_, rfl, hF, ht⟩) (fun q h => by cases h) dX5_isTrader_17
theorem in_isTM {z : Nat → Nat} {v : Nat → Int32} {f : Nat → Nat → Int32} {t : Int32} (hok : okM z v f) (h : ¬ F_X5_isTrader z v f t = 0) : vp_in t 12 := by
  rw [F_X5_isTrader] at h
  split at h
  · exact absurd rfl h
  · split at h
    · exact absurd rfl h
    · exact in_of (by assumption) (by assumption) hok.1 (by decide)
def F_X5_areTwo (z : Nat → Nat) (v : Nat → Int32) (f : Nat → Nat → Int32) (t u : Int32) : Int32 :=
  if F_X5_isTrader z v f t = 0 then
    0
  else
    if F_X5_isTrader z v f u = 0 then
      0
    else
      if t = u then
        0
      else
        1
set_option maxHeartbeats 4000000 in
set_option maxRecDepth 100000 in
theorem c_X5_areTwo (l : Launch) (dC : Nat → ClassId) (dI : Nat → Nat → Nat) (am : Nat → Nat) (cI cZ : ClassId) (th : Int32) (z : Nat → Nat) (v : Nat → Int32) (f : Nat → Nat → Int32) (t u : Int32) (hok : okM z v f) : Met l yX5_areTwo wsX5_areTwo ({ frames := 1, cells := 0, slots := 0, locals := 21 }) (va_Pc [.ref (am 0), .int t, .int u] (kM dC dI am cI cZ th z v f)) (vp_Si (fun r => r = F_X5_areTwo z v f t u)) 0 0 (fun _ => False) := by
  refine Met.ofW (cc := cX5_areTwo) (maxL := 3) (ret := (some .boolean)) (by decide) rfl ?_
  intro p e s m args below meth c s₁ B hml hv
  obtain ⟨rfl, hP, hK, hN⟩ := hv
  have hx := B.exec
  have hb := B.bytes
  have hr := B.returns
  have hts := atoms_spec (ws := wsX5_areTwo) B.pre
  have hown : s.vm.findClass RX5 = some m.cls := findClass_of_methodNamed B.named
  have hlocks := B.notSynchronized
  have hok9 := hok
  obtain ⟨hz0, hz1, hz2, hz3, hz4, hbz, hbs, hdp, hgv⟩ := hok9
  have hl := lv_entry ([.ref (am 0), .int t, .int u]) (n := 3) (Nat.le_of_ble_eq_true rfl)
  rw [lg_entry_eq]
  generalize (lg_sl ([.ref (am 0), .int t, .int u]) ++ List.replicate (3 - (lg_sl ([.ref (am 0), .int t, .int u])).length) Slot.unset).toArray = ls at hl ⊢
  have hl : lv_has ls 3 [(0, .ref (am 0)), (1, .int t), (2, .int u)] := hl
  generalize hF : F_X5_areTwo z v f t u = R9
  generalize hQ9 : MQ below (vp_Si (fun r => r = R9)) _ s 0 0 (fun _ => False) = Q9
  rw [F_X5_areTwo] at hF
  refine lv_aload_n hx hb dX5_areTwo_0 rfl (lv_at hl 0 rfl) ?_
  refine lv_iload_n hx hb dX5_areTwo_1 rfl (lv_at hl 1 rfl) ?_
  refine vp_callSi (W.runV (As := [.int t]) (rest := []) ⟨hx, hb, hml, hown, hts⟩ (c_X5_isTrader l dC dI am cI cZ th z v f t hok) (cwV 1 hts gX5_areTwo_X5_isTrader rfl rfl rfl (by decide +kernel) ⟨Nat.le_of_ble_eq_true rfl, Nat.le_of_ble_eq_true rfl⟩) (preM (ci := 5) (q0 := 0) hP hK hN rfl rfl rfl) rfl rfl hl.1 rfl (lv_room (Nat.le_of_ble_eq_true rfl)) dX5_areTwo_2 ⟨Nat.zero_le _, Nat.zero_le _⟩) (fun r1 h9 => ?_)
  have hr1 : r1 = F_X5_isTrader z v f t := h9
  try rw [← hr1] at hF
  refine lv_if_eq (tgt := 25) hx hb dX5_areTwo_5 (by decide) (fun c2 => ?_) (fun c2 => ?_)
  · rw [if_pos c2] at hF
    have c2f : F_X5_isTrader z v f t = 0 := by rw [← hr1]; exact c2
    refine lv_iconst (v := 0) hx hb dX5_areTwo_25 (by decide) ?_
    subst hQ9
    exact W.zret (ty := .boolean) hx hb hr rfl (fun t ht hW => ⟨_, rfl, hF, ht⟩) (fun q h => by cases h) dX5_areTwo_26
  · rw [if_neg c2] at hF
    have c2f : ¬ F_X5_isTrader z v f t = 0 := by rw [← hr1]; exact c2
    refine lv_aload_n hx hb dX5_areTwo_8 rfl (lv_at hl 0 rfl) ?_
    refine lv_iload_n hx hb dX5_areTwo_9 rfl (lv_at hl 2 rfl) ?_
    refine vp_callSi (W.runV (As := [.int u]) (rest := []) ⟨hx, hb, hml, hown, hts⟩ (c_X5_isTrader l dC dI am cI cZ th z v f u hok) (cwV 1 hts gX5_areTwo_X5_isTrader rfl rfl rfl (by decide +kernel) ⟨Nat.le_of_ble_eq_true rfl, Nat.le_of_ble_eq_true rfl⟩) (preM (ci := 5) (q0 := 0) hP hK hN rfl rfl rfl) rfl rfl hl.1 rfl (lv_room (Nat.le_of_ble_eq_true rfl)) dX5_areTwo_10 ⟨Nat.zero_le _, Nat.zero_le _⟩) (fun r3 h9 => ?_)
    have hr3 : r3 = F_X5_isTrader z v f u := h9
    try rw [← hr3] at hF
    refine lv_if_eq (tgt := 25) hx hb dX5_areTwo_13 (by decide) (fun c4 => ?_) (fun c4 => ?_)
    · rw [if_pos c4] at hF
      have c4f : F_X5_isTrader z v f u = 0 := by rw [← hr3]; exact c4
      refine lv_iconst (v := 0) hx hb dX5_areTwo_25 (by decide) ?_
      subst hQ9
      exact W.zret (ty := .boolean) hx hb hr rfl (fun t ht hW => ⟨_, rfl, hF, ht⟩) (fun q h => by cases h) dX5_areTwo_26
    · rw [if_neg c4] at hF
      have c4f : ¬ F_X5_isTrader z v f u = 0 := by rw [← hr3]; exact c4
      refine lv_iload_n hx hb dX5_areTwo_16 rfl (lv_at hl 1 rfl) ?_
      refine lv_iload_n hx hb dX5_areTwo_17 rfl (lv_at hl 2 rfl) ?_
      refine lv_icmp_eq (tgt := 25) hx hb dX5_areTwo_18 (by decide) (fun c5 => ?_) (fun c5 => ?_)
      · rw [if_pos c5] at hF
        refine lv_iconst (v := 0) hx hb dX5_areTwo_25 (by decide) ?_
        subst hQ9
        exact W.zret (ty := .boolean) hx hb hr rfl (fun t ht hW => ⟨_, rfl, hF, ht⟩) (fun q h => by cases h) dX5_areTwo_26
      · rw [if_neg c5] at hF
        refine lv_iconst (v := 1) hx hb dX5_areTwo_21 (by decide) ?_
        refine lv_goto (tgt := 26) hx hb dX5_areTwo_22 (by decide) ?_
        subst hQ9
        exact W.zret (ty := .boolean) hx hb hr rfl (fun t ht hW => ⟨_, rfl, hF, ht⟩) (fun q h => by cases h) dX5_areTwo_26
theorem in_twoM {z : Nat → Nat} {v : Nat → Int32} {f : Nat → Nat → Int32} {t u : Int32} (hok : okM z v f) (h : ¬ F_X5_areTwo z v f t u = 0) : vp_in t 12 := by
  rw [F_X5_areTwo] at h
  split at h
  · exact absurd rfl h
  · exact in_isTM hok (by assumption)
theorem in_towM {z : Nat → Nat} {v : Nat → Int32} {f : Nat → Nat → Int32} {t u : Int32} (hok : okM z v f) (h : ¬ F_X5_areTwo z v f t u = 0) : vp_in u 12 := by
  rw [F_X5_areTwo] at h
  split at h
  · exact absurd rfl h
  · split at h
    · exact absurd rfl h
    · exact in_isTM hok (by assumption)
def F_X5_isForbidden (z : Nat → Nat) (v : Nat → Int32) (f : Nat → Nat → Int32) (t a : Int32) : Int32 :=
  if (((f 1 t.toNatClampNeg) >>> (a &&& 31)) &&& 1) = 1 then
    1
  else
    0
set_option maxHeartbeats 4000000 in
set_option maxRecDepth 100000 in
theorem c_X5_isForbidden (l : Launch) (dC : Nat → ClassId) (dI : Nat → Nat → Nat) (am : Nat → Nat) (cI cZ : ClassId) (th : Int32) (z : Nat → Nat) (v : Nat → Int32) (f : Nat → Nat → Int32) (t a : Int32) (hok : okM z v f) (ht : vp_in t 12) : Met l yX5_isForbidden wsX5_isForbidden ({ frames := 0, cells := 0, slots := 0, locals := 0 }) (va_Pc [.ref (am 0), .int t, .int a] (kM dC dI am cI cZ th z v f)) (vp_Si (fun r => r = F_X5_isForbidden z v f t a)) 0 0 (fun _ => False) := by
  refine Met.ofW (cc := cX5_isForbidden) (maxL := 3) (ret := (some .boolean)) (by decide) rfl ?_
  intro p e s m args below meth c s₁ B hml hv
  obtain ⟨rfl, hP, hK, hN⟩ := hv
  have hx := B.exec
  have hb := B.bytes
  have hr := B.returns
  have hts := atoms_spec (ws := wsX5_isForbidden) B.pre
  have hown : s.vm.findClass RX5 = some m.cls := findClass_of_methodNamed B.named
  have hlocks := B.notSynchronized
  have hok9 := hok
  obtain ⟨hz0, hz1, hz2, hz3, hz4, hbz, hbs, hdp, hgv⟩ := hok9
  have hfl13 := hts (.fieldLink RX5 13 "TraderRightsModel" "forbidden" "[I") (List.mem_of_getElem? (i := 1) rfl)
  have hinX5 : ∀ w ∈ u_ws RX5 TX5 25, w ∈ wsX5_isForbidden := fun w h => List.mem_cons_of_mem _ (List.mem_append_right _ h)
  have hl := lv_entry ([.ref (am 0), .int t, .int a]) (n := 3) (Nat.le_of_ble_eq_true rfl)
  rw [lg_entry_eq]
  generalize (lg_sl ([.ref (am 0), .int t, .int a]) ++ List.replicate (3 - (lg_sl ([.ref (am 0), .int t, .int a])).length) Slot.unset).toArray = ls at hl ⊢
  have hl : lv_has ls 3 [(0, .ref (am 0)), (1, .int t), (2, .int a)] := hl
  generalize hF : F_X5_isForbidden z v f t a = R9
  generalize hQ9 : MQ below (vp_Si (fun r => r = R9)) _ s 0 0 (fun _ => False) = Q9
  rw [F_X5_isForbidden] at hF
  refine lv_aload_n hx hb dX5_isForbidden_0 rfl (lv_at hl 0 rfl) ?_
  refine va_get (D := (dC, dI)) (ci := 5) (v := .ref (am 2)) (C := RX5) (T := TX5) (N := 25) hx hb hts hinX5 hown hK hP 0 rfl rfl 7 (by decide) hfl13 (fun _ h9 => h9) rfl dX5_isForbidden_1 ?_
  refine lv_iload_n hx hb dX5_isForbidden_4 rfl (lv_at hl 1 rfl) ?_
  refine va_iald hx hb hK hP 2 0 rfl rfl ht dX5_isForbidden_5 ?_
  refine lv_iload_n hx hb dX5_isForbidden_6 rfl (lv_at hl 2 rfl) ?_
  refine lv_ishr hx hb dX5_isForbidden_7 ?_
  refine lv_iconst (v := 1) hx hb dX5_isForbidden_8 (by decide) ?_
  refine lv_iand hx hb dX5_isForbidden_9 ?_
  refine lv_iconst (v := 1) hx hb dX5_isForbidden_10 (by decide) ?_
  refine lv_icmp_ne (tgt := 18) hx hb dX5_isForbidden_11 (by decide) (fun c1 => ?_) (fun c1 => ?_)
  · rw [if_neg c1] at hF
    refine lv_iconst (v := 0) hx hb dX5_isForbidden_18 (by decide) ?_
    subst hQ9
    exact W.zret (ty := .boolean) hx hb hr rfl (fun t ht hW => ⟨_, rfl, hF, ht⟩) (fun q h => by cases h) dX5_isForbidden_19
  · rw [if_pos c1] at hF
    refine lv_iconst (v := 1) hx hb dX5_isForbidden_14 (by decide) ?_
    refine lv_goto (tgt := 19) hx hb dX5_isForbidden_15 (by decide) ?_
    subst hQ9
    exact W.zret (ty := .boolean) hx hb hr rfl (fun t ht hW => ⟨_, rfl, hF, ht⟩) (fun q h => by cases h) dX5_isForbidden_19
def F_X5_isEnded (z : Nat → Nat) (v : Nat → Int32) (f : Nat → Nat → Int32) (t day : Int32) : Int32 :=
  if f 3 t.toNatClampNeg < 0 then
    0
  else
    if day < f 3 t.toNatClampNeg then
      0
    else
      1
set_option maxHeartbeats 4000000 in
set_option maxRecDepth 100000 in
theorem c_X5_isEnded (l : Launch) (dC : Nat → ClassId) (dI : Nat → Nat → Nat) (am : Nat → Nat) (cI cZ : ClassId) (th : Int32) (z : Nat → Nat) (v : Nat → Int32) (f : Nat → Nat → Int32) (t day : Int32) (hok : okM z v f) (ht : vp_in t 12) : Met l yX5_isEnded wsX5_isEnded ({ frames := 0, cells := 0, slots := 0, locals := 0 }) (va_Pc [.ref (am 0), .int t, .int day] (kM dC dI am cI cZ th z v f)) (vp_Si (fun r => r = F_X5_isEnded z v f t day)) 0 0 (fun _ => False) := by
  refine Met.ofW (cc := cX5_isEnded) (maxL := 3) (ret := (some .boolean)) (by decide) rfl ?_
  intro p e s m args below meth c s₁ B hml hv
  obtain ⟨rfl, hP, hK, hN⟩ := hv
  have hx := B.exec
  have hb := B.bytes
  have hr := B.returns
  have hts := atoms_spec (ws := wsX5_isEnded) B.pre
  have hown : s.vm.findClass RX5 = some m.cls := findClass_of_methodNamed B.named
  have hlocks := B.notSynchronized
  have hok9 := hok
  obtain ⟨hz0, hz1, hz2, hz3, hz4, hbz, hbs, hdp, hgv⟩ := hok9
  have hfl19 := hts (.fieldLink RX5 19 "TraderRightsModel" "endsAt" "[I") (List.mem_of_getElem? (i := 1) rfl)
  have hinX5 : ∀ w ∈ u_ws RX5 TX5 25, w ∈ wsX5_isEnded := fun w h => List.mem_cons_of_mem _ (List.mem_append_right _ h)
  have hl := lv_entry ([.ref (am 0), .int t, .int day]) (n := 3) (Nat.le_of_ble_eq_true rfl)
  rw [lg_entry_eq]
  generalize (lg_sl ([.ref (am 0), .int t, .int day]) ++ List.replicate (3 - (lg_sl ([.ref (am 0), .int t, .int day])).length) Slot.unset).toArray = ls at hl ⊢
  have hl : lv_has ls 3 [(0, .ref (am 0)), (1, .int t), (2, .int day)] := hl
  generalize hF : F_X5_isEnded z v f t day = R9
  generalize hQ9 : MQ below (vp_Si (fun r => r = R9)) _ s 0 0 (fun _ => False) = Q9
  rw [F_X5_isEnded] at hF
  refine lv_aload_n hx hb dX5_isEnded_0 rfl (lv_at hl 0 rfl) ?_
  refine va_get (D := (dC, dI)) (ci := 5) (v := .ref (am 4)) (C := RX5) (T := TX5) (N := 25) hx hb hts hinX5 hown hK hP 0 rfl rfl 9 (by decide) hfl19 (fun _ h9 => h9) rfl dX5_isEnded_1 ?_
  refine lv_iload_n hx hb dX5_isEnded_4 rfl (lv_at hl 1 rfl) ?_
  refine va_iald hx hb hK hP 4 0 rfl rfl ht dX5_isEnded_5 ?_
  refine lv_if_lt (tgt := 23) hx hb dX5_isEnded_6 (by decide) (fun c1 => ?_) (fun c1 => ?_)
  · rw [if_pos c1] at hF
    refine lv_iconst (v := 0) hx hb dX5_isEnded_23 (by decide) ?_
    subst hQ9
    exact W.zret (ty := .boolean) hx hb hr rfl (fun t ht hW => ⟨_, rfl, hF, ht⟩) (fun q h => by cases h) dX5_isEnded_24
  · rw [if_neg c1] at hF
    refine lv_aload_n hx hb dX5_isEnded_9 rfl (lv_at hl 0 rfl) ?_
    refine va_get (D := (dC, dI)) (ci := 5) (v := .ref (am 4)) (C := RX5) (T := TX5) (N := 25) hx hb hts hinX5 hown hK hP 0 rfl rfl 9 (by decide) hfl19 (fun _ h9 => h9) rfl dX5_isEnded_10 ?_
    refine lv_iload_n hx hb dX5_isEnded_13 rfl (lv_at hl 1 rfl) ?_
    refine va_iald hx hb hK hP 4 0 rfl rfl ht dX5_isEnded_14 ?_
    refine lv_iload_n hx hb dX5_isEnded_15 rfl (lv_at hl 2 rfl) ?_
    refine lv_icmp_gt (tgt := 23) hx hb dX5_isEnded_16 (by decide) (fun c2 => ?_) (fun c2 => ?_)
    · rw [if_pos c2] at hF
      refine lv_iconst (v := 0) hx hb dX5_isEnded_23 (by decide) ?_
      subst hQ9
      exact W.zret (ty := .boolean) hx hb hr rfl (fun t ht hW => ⟨_, rfl, hF, ht⟩) (fun q h => by cases h) dX5_isEnded_24
    · rw [if_neg c2] at hF
      refine lv_iconst (v := 1) hx hb dX5_isEnded_19 (by decide) ?_
      refine lv_goto (tgt := 24) hx hb dX5_isEnded_20 (by decide) ?_
      subst hQ9
      exact W.zret (ty := .boolean) hx hb hr rfl (fun t ht hW => ⟨_, rfl, hF, ht⟩) (fun q h => by cases h) dX5_isEnded_24
def F_X5_withDeputy_L4 (z : Nat → Nat) (v : Nat → Int32) (f : Nat → Nat → Int32) (t : Int32)  : Nat → Int32 → Nat → Int32
  | 0, fo, k => fo
  | n4 + 1, fo, k =>
    if z 0 ≤ k then
      fo
    else
      if f 2 k = t then
        F_X5_withDeputy_L4 z v f t n4 (nI k) (k + 1)
      else
        F_X5_withDeputy_L4 z v f t n4 fo (k + 1)
def F_X5_withDeputy (z : Nat → Nat) (v : Nat → Int32) (f : Nat → Nat → Int32) (t : Int32) : Int32 :=
  (F_X5_withDeputy_L4 z v f t (z 0 + 1) (-1) 0)
set_option maxHeartbeats 4000000 in
set_option maxRecDepth 100000 in
theorem c_X5_withDeputy (l : Launch) (dC : Nat → ClassId) (dI : Nat → Nat → Nat) (am : Nat → Nat) (cI cZ : ClassId) (th : Int32) (z : Nat → Nat) (v : Nat → Int32) (f : Nat → Nat → Int32) (t : Int32) (hok : okM z v f) : Met l yX5_withDeputy wsX5_withDeputy ({ frames := 0, cells := 0, slots := 0, locals := 0 }) (va_Pc [.ref (am 0), .int t] (kM dC dI am cI cZ th z v f)) (vp_Si (fun r => r = F_X5_withDeputy z v f t)) 0 0 (fun _ => False) := by
  refine Met.ofW (cc := cX5_withDeputy) (maxL := 4) (ret := (some .int)) (by decide) rfl ?_
  intro p e s m args below meth c s₁ B hml hv
  obtain ⟨rfl, hP, hK, hN⟩ := hv
  have hx := B.exec
  have hb := B.bytes
  have hr := B.returns
  have hts := atoms_spec (ws := wsX5_withDeputy) B.pre
  have hown : s.vm.findClass RX5 = some m.cls := findClass_of_methodNamed B.named
  have hlocks := B.notSynchronized
  have hok9 := hok
  obtain ⟨hz0, hz1, hz2, hz3, hz4, hbz, hbs, hdp, hgv⟩ := hok9
  have hfl16 := hts (.fieldLink RX5 16 "TraderRightsModel" "deputyOf" "[I") (List.mem_of_getElem? (i := 2) rfl)
  have hfl69 := hts (.fieldLink RX5 69 "TraderRightsModel" "traders" "I") (List.mem_of_getElem? (i := 1) rfl)
  have hinX5 : ∀ w ∈ u_ws RX5 TX5 25, w ∈ wsX5_withDeputy := fun w h => List.mem_cons_of_mem _ (List.mem_append_right _ h)
  have hl := lv_entry ([.ref (am 0), .int t]) (n := 4) (Nat.le_of_ble_eq_true rfl)
  rw [lg_entry_eq]
  generalize (lg_sl ([.ref (am 0), .int t]) ++ List.replicate (4 - (lg_sl ([.ref (am 0), .int t])).length) Slot.unset).toArray = ls at hl ⊢
  have hl : lv_has ls 4 [(0, .ref (am 0)), (1, .int t)] := hl
  generalize hF : F_X5_withDeputy z v f t = R9
  generalize hQ9 : MQ below (vp_Si (fun r => r = R9)) _ s 0 0 (fun _ => False) = Q9
  rw [F_X5_withDeputy] at hF
  refine lv_iconst (v := (-1)) hx hb dX5_withDeputy_0 (by decide) ?_
  refine lv_istore_n (lv' := [(2, .int (-1)), (0, .ref (am 0)), (1, .int t)]) hx hb dX5_withDeputy_1 rfl hl (by decide) rfl (fun ls hl => ?_)
  refine lv_iconst (v := 0) hx hb dX5_withDeputy_2 (by decide) ?_
  refine lv_istore_n (lv' := [(3, .int 0), (2, .int (-1)), (0, .ref (am 0)), (1, .int t)]) hx hb dX5_withDeputy_3 rfl hl (by decide) rfl (fun ls hl => ?_)
  have lp4 : ∀ (n4 : Nat) (fo : Int32) (k : Nat) (ls : Array Slot), k ≤ z 0 → z 0 < k + n4 → lv_has ls 4 [(0, .ref (am 0)), (1, .int t), (2, .int fo), (3, .int (nI k))] → (∀ ls : Array Slot, lv_has ls 4 [(0, .ref (am 0)), (1, .int t), (2, .int (F_X5_withDeputy_L4 z v f t n4 fo k))] → W p l e (headSpec wsX5_withDeputy ({ frames := 0, cells := 0, slots := 0, locals := 0 })).room s m ([.ref (am 0), .int t] : List Value).toArray below meth c s.heap [] 0 0 Q9 (F0 m 34 ls [])) → W p l e (headSpec wsX5_withDeputy ({ frames := 0, cells := 0, slots := 0, locals := 0 })).room s m ([.ref (am 0), .int t] : List Value).toArray below meth c s.heap [] 0 0 Q9 (F0 m 4 ls []) := by
    intro n4
    induction n4 with
    | zero =>
      intro fo k ls hk4 hn4
      exact absurd hn4 (by omega)
    | succ n4 ih4 =>
      intro fo k ls hk4 hn4 hl hq4
      generalize hF4 : F_X5_withDeputy_L4 z v f t (n4 + 1) fo k = R4 at hq4
      rw [F_X5_withDeputy_L4] at hF4
      refine lv_iload_n hx hb dX5_withDeputy_4 rfl (lv_at hl 3 rfl) ?_
      refine lv_aload_n hx hb dX5_withDeputy_5 rfl (lv_at hl 0 rfl) ?_
      refine va_get (D := (dC, dI)) (ci := 5) (v := .int (nI (z 0))) (C := RX5) (T := TX5) (N := 25) hx hb hts hinX5 hown hK hP 0 rfl rfl 1 (by decide) hfl69 (fun _ h9 => h9) rfl dX5_withDeputy_6 ?_
      refine lv_icmp_ge (tgt := 34) hx hb dX5_withDeputy_9 (by decide) (fun c1 => ?_) (fun c1 => ?_)
      · have c1 : z 0 ≤ k := (nI_leI (a := z 0) (b := k) (by omega) (by omega)).mp c1
        rw [if_pos c1] at hF4
        subst hF4
        exact hq4 ls (lv_sub hl [0, 1, 2] rfl)
      · have c1 : ¬ z 0 ≤ k := fun h9 => c1 ((nI_leI (a := z 0) (b := k) (by omega) (by omega)).mpr h9)
        rw [if_neg c1] at hF4
        refine lv_aload_n hx hb dX5_withDeputy_12 rfl (lv_at hl 0 rfl) ?_
        refine va_get (D := (dC, dI)) (ci := 5) (v := .ref (am 3)) (C := RX5) (T := TX5) (N := 25) hx hb hts hinX5 hown hK hP 0 rfl rfl 8 (by decide) hfl16 (fun _ h9 => h9) rfl dX5_withDeputy_13 ?_
        refine lv_iload_n hx hb dX5_withDeputy_16 rfl (lv_at hl 3 rfl) ?_
        refine xa_ild hx hb hK hP 3 0 rfl rfl (by omega) (by decide) dX5_withDeputy_17 ?_
        refine lv_iload_n hx hb dX5_withDeputy_18 rfl (lv_at hl 1 rfl) ?_
        refine lv_icmp_ne (tgt := 26) hx hb dX5_withDeputy_19 (by decide) (fun c2 => ?_) (fun c2 => ?_)
        · rw [if_neg c2] at hF4
          refine lv_iload_n hx hb dX5_withDeputy_26 rfl (lv_at hl 2 rfl) ?_
          refine lv_istore_n (lv' := [(2, .int fo), (0, .ref (am 0)), (1, .int t), (3, .int (nI k))]) hx hb dX5_withDeputy_27 rfl hl (by decide) rfl (fun ls hl => ?_)
          refine lv_iinc (v := nI (k + 1)) (lv' := [(3, .int (nI (k + 1))), (2, .int fo), (0, .ref (am 0)), (1, .int t)]) hx hb dX5_withDeputy_28 hl (k := 3) rfl (xi_inc _) (by decide) rfl (fun ls hl => ?_)
          refine lv_goto (tgt := 4) hx hb dX5_withDeputy_31 (by decide) ?_
          exact ih4 fo (k + 1) ls (by omega) (by omega) (lv_sub hl [2, 3, 1, 0] rfl) (by rw [hF4]; exact hq4)
        · rw [if_pos c2] at hF4
          refine lv_iload_n hx hb dX5_withDeputy_22 rfl (lv_at hl 3 rfl) ?_
          refine lv_goto (tgt := 27) hx hb dX5_withDeputy_23 (by decide) ?_
          refine lv_istore_n (lv' := [(2, .int (nI k)), (0, .ref (am 0)), (1, .int t), (3, .int (nI k))]) hx hb dX5_withDeputy_27 rfl hl (by decide) rfl (fun ls hl => ?_)
          refine lv_iinc (v := nI (k + 1)) (lv' := [(3, .int (nI (k + 1))), (2, .int (nI k)), (0, .ref (am 0)), (1, .int t)]) hx hb dX5_withDeputy_28 hl (k := 3) rfl (xi_inc _) (by decide) rfl (fun ls hl => ?_)
          refine lv_goto (tgt := 4) hx hb dX5_withDeputy_31 (by decide) ?_
          exact ih4 (nI k) (k + 1) ls (by omega) (by omega) (lv_sub hl [2, 3, 1, 0] rfl) (by rw [hF4]; exact hq4)
  refine lp4 (z 0 + 1) (-1) 0 ls (by omega) (by omega) (lv_sub hl [2, 3, 1, 0] rfl) (fun ls hl => ?_)
  obtain ⟨r3, hr3⟩ : ∃ y, y = (F_X5_withDeputy_L4 z v f t (z 0 + 1) (-1) 0) := ⟨_, rfl⟩
  rw [← hr3] at hl
  try rw [← hr3] at hF
  refine lv_iload_n hx hb dX5_withDeputy_34 rfl (lv_at hl 2 rfl) ?_
  subst hQ9
  exact W.iret hx hb hr (fun t ht hW => ⟨_, rfl, hF, ht⟩) (fun q h => by cases h) dX5_withDeputy_35
def F_X5_isSuspended_L8 (z : Nat → Nat) (v : Nat → Int32) (f : Nat → Nat → Int32) (t day : Int32)  : Nat → Int32 → Int32 → Nat → Int32
  | 0, be, on, k => on
  | n8 + 1, be, on, k =>
    if z 3 ≤ k then
      on
    else
      if f 13 k = t then
        if day < f 14 k then
          F_X5_isSuspended_L8 z v f t day n8 be on (k + 1)
        else
          if f 14 k < be then
            F_X5_isSuspended_L8 z v f t day n8 be on (k + 1)
          else
            F_X5_isSuspended_L8 z v f t day n8 (f 14 k) (f 15 k) (k + 1)
      else
        F_X5_isSuspended_L8 z v f t day n8 be on (k + 1)
def F_X5_isSuspended (z : Nat → Nat) (v : Nat → Int32) (f : Nat → Nat → Int32) (t day : Int32) : Int32 :=
  (F_X5_isSuspended_L8 z v f t day (z 3 + 1) (-1) 0 0)
theorem zB_X5_isSuspended {z : Nat → Nat} {v : Nat → Int32} {f : Nat → Nat → Int32} (hok : okM z v f) (t day : Int32) : ∀ (n : Nat) (be on : Int32) (k : Nat), zB on → zB (F_X5_isSuspended_L8 z v f t day n be on k) := by
  obtain ⟨-, -, -, -, -, -, hbs, -⟩ := hok
  intro n
  induction n with
  | zero => intro be on k h; exact h
  | succ n ih =>
    intro be on k h
    rw [F_X5_isSuspended_L8]
    repeat' split
    all_goals first | assumption | exact ih _ _ _ h | exact ih _ _ _ (hbs _)
set_option maxHeartbeats 4000000 in
set_option maxRecDepth 100000 in
theorem c_X5_isSuspended (l : Launch) (dC : Nat → ClassId) (dI : Nat → Nat → Nat) (am : Nat → Nat) (cI cZ : ClassId) (th : Int32) (z : Nat → Nat) (v : Nat → Int32) (f : Nat → Nat → Int32) (t day : Int32) (hok : okM z v f) : Met l yX5_isSuspended wsX5_isSuspended ({ frames := 0, cells := 0, slots := 0, locals := 0 }) (va_Pc [.ref (am 0), .int t, .int day] (kM dC dI am cI cZ th z v f)) (vp_Si (fun r => r = F_X5_isSuspended z v f t day)) 0 0 (fun _ => False) := by
  refine Met.ofW (cc := cX5_isSuspended) (maxL := 7) (ret := (some .boolean)) (by decide) rfl ?_
  intro p e s m args below meth c s₁ B hml hv
  obtain ⟨rfl, hP, hK, hN⟩ := hv
  have hx := B.exec
  have hb := B.bytes
  have hr := B.returns
  have hts := atoms_spec (ws := wsX5_isSuspended) B.pre
  have hown : s.vm.findClass RX5 = some m.cls := findClass_of_methodNamed B.named
  have hlocks := B.notSynchronized
  have hok9 := hok
  obtain ⟨hz0, hz1, hz2, hz3, hz4, hbz, hbs, hdp, hgv⟩ := hok9
  have hfl114 := hts (.fieldLink RX5 114 "TraderRightsModel" "suspensions" "I") (List.mem_of_getElem? (i := 1) rfl)
  have hfl50 := hts (.fieldLink RX5 50 "TraderRightsModel" "suspended" "[I") (List.mem_of_getElem? (i := 2) rfl)
  have hfl53 := hts (.fieldLink RX5 53 "TraderRightsModel" "suspendedOn" "[I") (List.mem_of_getElem? (i := 3) rfl)
  have hfl56 := hts (.fieldLink RX5 56 "TraderRightsModel" "isOn" "[Z") (List.mem_of_getElem? (i := 4) rfl)
  have hinX5 : ∀ w ∈ u_ws RX5 TX5 25, w ∈ wsX5_isSuspended := fun w h => List.mem_cons_of_mem _ (List.mem_append_right _ h)
  have hl := lv_entry ([.ref (am 0), .int t, .int day]) (n := 7) (Nat.le_of_ble_eq_true rfl)
  rw [lg_entry_eq]
  generalize (lg_sl ([.ref (am 0), .int t, .int day]) ++ List.replicate (7 - (lg_sl ([.ref (am 0), .int t, .int day])).length) Slot.unset).toArray = ls at hl ⊢
  have hl : lv_has ls 7 [(0, .ref (am 0)), (1, .int t), (2, .int day)] := hl
  generalize hF : F_X5_isSuspended z v f t day = R9
  generalize hQ9 : MQ below (vp_Si (fun r => r = R9)) _ s 0 0 (fun _ => False) = Q9
  rw [F_X5_isSuspended] at hF
  refine lv_iconst (v := (-1)) hx hb dX5_isSuspended_0 (by decide) ?_
  refine lv_istore_n (lv' := [(3, .int (-1)), (0, .ref (am 0)), (1, .int t), (2, .int day)]) hx hb dX5_isSuspended_1 rfl hl (by decide) rfl (fun ls hl => ?_)
  refine lv_iconst (v := 0) hx hb dX5_isSuspended_2 (by decide) ?_
  refine lv_istore (lv' := [(4, .int 0), (3, .int (-1)), (0, .ref (am 0)), (1, .int t), (2, .int day)]) hx hb dX5_isSuspended_3 hl (by decide) rfl (fun ls hl => ?_)
  refine lv_iconst (v := 0) hx hb dX5_isSuspended_5 (by decide) ?_
  refine lv_istore (lv' := [(5, .int 0), (4, .int 0), (3, .int (-1)), (0, .ref (am 0)), (1, .int t), (2, .int day)]) hx hb dX5_isSuspended_6 hl (by decide) rfl (fun ls hl => ?_)
  have lp8 : ∀ (n8 : Nat) (be : Int32) (on : Int32) (k : Nat) (ls : Array Slot), k ≤ z 3 → z 3 < k + n8 → lv_has ls 7 [(0, .ref (am 0)), (1, .int t), (2, .int day), (3, .int be), (4, .int on), (5, .int (nI k))] → (∀ ls : Array Slot, lv_has ls 7 [(0, .ref (am 0)), (1, .int t), (2, .int day), (4, .int (F_X5_isSuspended_L8 z v f t day n8 be on k))] → W p l e (headSpec wsX5_isSuspended ({ frames := 0, cells := 0, slots := 0, locals := 0 })).room s m ([.ref (am 0), .int t, .int day] : List Value).toArray below meth c s.heap [] 0 0 Q9 (F0 m 99 ls [])) → W p l e (headSpec wsX5_isSuspended ({ frames := 0, cells := 0, slots := 0, locals := 0 })).room s m ([.ref (am 0), .int t, .int day] : List Value).toArray below meth c s.heap [] 0 0 Q9 (F0 m 8 ls []) := by
    intro n8
    induction n8 with
    | zero =>
      intro be on k ls hk8 hn8
      exact absurd hn8 (by omega)
    | succ n8 ih8 =>
      intro be on k ls hk8 hn8 hl hq8
      generalize hF8 : F_X5_isSuspended_L8 z v f t day (n8 + 1) be on k = R8 at hq8
      rw [F_X5_isSuspended_L8] at hF8
      refine lv_iload hx hb dX5_isSuspended_8 (lv_at hl 5 rfl) ?_
      refine lv_aload_n hx hb dX5_isSuspended_10 rfl (lv_at hl 0 rfl) ?_
      refine va_get (D := (dC, dI)) (ci := 5) (v := .int (nI (z 3))) (C := RX5) (T := TX5) (N := 25) hx hb hts hinX5 hown hK hP 0 rfl rfl 4 (by decide) hfl114 (fun _ h9 => h9) rfl dX5_isSuspended_11 ?_
      refine lv_icmp_ge (tgt := 99) hx hb dX5_isSuspended_14 (by decide) (fun c1 => ?_) (fun c1 => ?_)
      · have c1 : z 3 ≤ k := (nI_leI (a := z 3) (b := k) (by omega) (by omega)).mp c1
        rw [if_pos c1] at hF8
        subst hF8
        exact hq8 ls (lv_sub hl [0, 1, 2, 4] rfl)
      · have c1 : ¬ z 3 ≤ k := fun h9 => c1 ((nI_leI (a := z 3) (b := k) (by omega) (by omega)).mpr h9)
        rw [if_neg c1] at hF8
        refine lv_aload_n hx hb dX5_isSuspended_17 rfl (lv_at hl 0 rfl) ?_
        refine va_get (D := (dC, dI)) (ci := 5) (v := .ref (am 14)) (C := RX5) (T := TX5) (N := 25) hx hb hts hinX5 hown hK hP 0 rfl rfl 19 (by decide) hfl50 (fun _ h9 => h9) rfl dX5_isSuspended_18 ?_
        refine lv_iload hx hb dX5_isSuspended_21 (lv_at hl 5 rfl) ?_
        refine xa_ild hx hb hK hP 14 0 rfl rfl (by omega) (by decide) dX5_isSuspended_23 ?_
        refine lv_iload_n hx hb dX5_isSuspended_24 rfl (lv_at hl 1 rfl) ?_
        refine lv_icmp_ne (tgt := 54) hx hb dX5_isSuspended_25 (by decide) (fun c2 => ?_) (fun c2 => ?_)
        · rw [if_neg c2] at hF8
          refine lv_iconst (v := 0) hx hb dX5_isSuspended_54 (by decide) ?_
          refine lv_istore (lv' := [(6, .int 0), (0, .ref (am 0)), (1, .int t), (2, .int day), (3, .int be), (4, .int on), (5, .int (nI k))]) hx hb dX5_isSuspended_55 hl (by decide) rfl (fun ls hl => ?_)
          refine lv_iload hx hb dX5_isSuspended_57 (lv_at hl 0 rfl) ?_
          refine lv_if_eq (tgt := 72) hx hb dX5_isSuspended_59 (by decide) (fun _ => ?_) (fun c9 => absurd c9 (by decide))
          refine lv_iload_n hx hb dX5_isSuspended_72 rfl (lv_at hl 4 rfl) ?_
          refine lv_istore_n (lv' := [(3, .int be), (6, .int 0), (0, .ref (am 0)), (1, .int t), (2, .int day), (4, .int on), (5, .int (nI k))]) hx hb dX5_isSuspended_73 rfl hl (by decide) rfl (fun ls hl => ?_)
          refine lv_iload hx hb dX5_isSuspended_74 (lv_at hl 1 rfl) ?_
          refine lv_if_eq (tgt := 89) hx hb dX5_isSuspended_76 (by decide) (fun _ => ?_) (fun c9 => absurd c9 (by decide))
          refine lv_iload hx hb dX5_isSuspended_89 (lv_at hl 5 rfl) ?_
          refine lv_istore (lv' := [(4, .int on), (3, .int be), (6, .int 0), (0, .ref (am 0)), (1, .int t), (2, .int day), (5, .int (nI k))]) hx hb dX5_isSuspended_91 hl (by decide) rfl (fun ls hl => ?_)
          refine lv_iinc (v := nI (k + 1)) (lv' := [(5, .int (nI (k + 1))), (4, .int on), (3, .int be), (6, .int 0), (0, .ref (am 0)), (1, .int t), (2, .int day)]) hx hb dX5_isSuspended_93 hl (k := 6) rfl (xi_inc _) (by decide) rfl (fun ls hl => ?_)
          refine lv_goto (tgt := 8) hx hb dX5_isSuspended_96 (by decide) ?_
          exact ih8 be on (k + 1) ls (by omega) (by omega) (lv_sub hl [4, 5, 6, 2, 1, 0] rfl) (by rw [hF8]; exact hq8)
        · rw [if_pos c2] at hF8
          refine lv_aload_n hx hb dX5_isSuspended_28 rfl (lv_at hl 0 rfl) ?_
          refine va_get (D := (dC, dI)) (ci := 5) (v := .ref (am 15)) (C := RX5) (T := TX5) (N := 25) hx hb hts hinX5 hown hK hP 0 rfl rfl 20 (by decide) hfl53 (fun _ h9 => h9) rfl dX5_isSuspended_29 ?_
          refine lv_iload hx hb dX5_isSuspended_32 (lv_at hl 5 rfl) ?_
          refine xa_ild hx hb hK hP 15 0 rfl rfl (by omega) (by decide) dX5_isSuspended_34 ?_
          refine lv_iload_n hx hb dX5_isSuspended_35 rfl (lv_at hl 2 rfl) ?_
          refine lv_icmp_gt (tgt := 54) hx hb dX5_isSuspended_36 (by decide) (fun c3 => ?_) (fun c3 => ?_)
          · rw [if_pos c3] at hF8
            refine lv_iconst (v := 0) hx hb dX5_isSuspended_54 (by decide) ?_
            refine lv_istore (lv' := [(6, .int 0), (0, .ref (am 0)), (1, .int t), (2, .int day), (3, .int be), (4, .int on), (5, .int (nI k))]) hx hb dX5_isSuspended_55 hl (by decide) rfl (fun ls hl => ?_)
            refine lv_iload hx hb dX5_isSuspended_57 (lv_at hl 0 rfl) ?_
            refine lv_if_eq (tgt := 72) hx hb dX5_isSuspended_59 (by decide) (fun _ => ?_) (fun c9 => absurd c9 (by decide))
            refine lv_iload_n hx hb dX5_isSuspended_72 rfl (lv_at hl 4 rfl) ?_
            refine lv_istore_n (lv' := [(3, .int be), (6, .int 0), (0, .ref (am 0)), (1, .int t), (2, .int day), (4, .int on), (5, .int (nI k))]) hx hb dX5_isSuspended_73 rfl hl (by decide) rfl (fun ls hl => ?_)
            refine lv_iload hx hb dX5_isSuspended_74 (lv_at hl 1 rfl) ?_
            refine lv_if_eq (tgt := 89) hx hb dX5_isSuspended_76 (by decide) (fun _ => ?_) (fun c9 => absurd c9 (by decide))
            refine lv_iload hx hb dX5_isSuspended_89 (lv_at hl 5 rfl) ?_
            refine lv_istore (lv' := [(4, .int on), (3, .int be), (6, .int 0), (0, .ref (am 0)), (1, .int t), (2, .int day), (5, .int (nI k))]) hx hb dX5_isSuspended_91 hl (by decide) rfl (fun ls hl => ?_)
            refine lv_iinc (v := nI (k + 1)) (lv' := [(5, .int (nI (k + 1))), (4, .int on), (3, .int be), (6, .int 0), (0, .ref (am 0)), (1, .int t), (2, .int day)]) hx hb dX5_isSuspended_93 hl (k := 6) rfl (xi_inc _) (by decide) rfl (fun ls hl => ?_)
            refine lv_goto (tgt := 8) hx hb dX5_isSuspended_96 (by decide) ?_
            exact ih8 be on (k + 1) ls (by omega) (by omega) (lv_sub hl [4, 5, 6, 2, 1, 0] rfl) (by rw [hF8]; exact hq8)
          · rw [if_neg c3] at hF8
            refine lv_aload_n hx hb dX5_isSuspended_39 rfl (lv_at hl 0 rfl) ?_
            refine va_get (D := (dC, dI)) (ci := 5) (v := .ref (am 15)) (C := RX5) (T := TX5) (N := 25) hx hb hts hinX5 hown hK hP 0 rfl rfl 20 (by decide) hfl53 (fun _ h9 => h9) rfl dX5_isSuspended_40 ?_
            refine lv_iload hx hb dX5_isSuspended_43 (lv_at hl 5 rfl) ?_
            refine xa_ild hx hb hK hP 15 0 rfl rfl (by omega) (by decide) dX5_isSuspended_45 ?_
            refine lv_iload_n hx hb dX5_isSuspended_46 rfl (lv_at hl 3 rfl) ?_
            refine lv_icmp_lt (tgt := 54) hx hb dX5_isSuspended_47 (by decide) (fun c4 => ?_) (fun c4 => ?_)
            · rw [if_pos c4] at hF8
              refine lv_iconst (v := 0) hx hb dX5_isSuspended_54 (by decide) ?_
              refine lv_istore (lv' := [(6, .int 0), (0, .ref (am 0)), (1, .int t), (2, .int day), (3, .int be), (4, .int on), (5, .int (nI k))]) hx hb dX5_isSuspended_55 hl (by decide) rfl (fun ls hl => ?_)
              refine lv_iload hx hb dX5_isSuspended_57 (lv_at hl 0 rfl) ?_
              refine lv_if_eq (tgt := 72) hx hb dX5_isSuspended_59 (by decide) (fun _ => ?_) (fun c9 => absurd c9 (by decide))
              refine lv_iload_n hx hb dX5_isSuspended_72 rfl (lv_at hl 4 rfl) ?_
              refine lv_istore_n (lv' := [(3, .int be), (6, .int 0), (0, .ref (am 0)), (1, .int t), (2, .int day), (4, .int on), (5, .int (nI k))]) hx hb dX5_isSuspended_73 rfl hl (by decide) rfl (fun ls hl => ?_)
              refine lv_iload hx hb dX5_isSuspended_74 (lv_at hl 1 rfl) ?_
              refine lv_if_eq (tgt := 89) hx hb dX5_isSuspended_76 (by decide) (fun _ => ?_) (fun c9 => absurd c9 (by decide))
              refine lv_iload hx hb dX5_isSuspended_89 (lv_at hl 5 rfl) ?_
              refine lv_istore (lv' := [(4, .int on), (3, .int be), (6, .int 0), (0, .ref (am 0)), (1, .int t), (2, .int day), (5, .int (nI k))]) hx hb dX5_isSuspended_91 hl (by decide) rfl (fun ls hl => ?_)
              refine lv_iinc (v := nI (k + 1)) (lv' := [(5, .int (nI (k + 1))), (4, .int on), (3, .int be), (6, .int 0), (0, .ref (am 0)), (1, .int t), (2, .int day)]) hx hb dX5_isSuspended_93 hl (k := 6) rfl (xi_inc _) (by decide) rfl (fun ls hl => ?_)
              refine lv_goto (tgt := 8) hx hb dX5_isSuspended_96 (by decide) ?_
              exact ih8 be on (k + 1) ls (by omega) (by omega) (lv_sub hl [4, 5, 6, 2, 1, 0] rfl) (by rw [hF8]; exact hq8)
            · rw [if_neg c4] at hF8
              refine lv_iconst (v := 1) hx hb dX5_isSuspended_50 (by decide) ?_
              refine lv_goto (tgt := 55) hx hb dX5_isSuspended_51 (by decide) ?_
              refine lv_istore (lv' := [(6, .int 1), (0, .ref (am 0)), (1, .int t), (2, .int day), (3, .int be), (4, .int on), (5, .int (nI k))]) hx hb dX5_isSuspended_55 hl (by decide) rfl (fun ls hl => ?_)
              refine lv_iload hx hb dX5_isSuspended_57 (lv_at hl 0 rfl) ?_
              refine lv_if_eq (tgt := 72) hx hb dX5_isSuspended_59 (by decide) (fun c9 => absurd c9 (by decide)) (fun _ => ?_)
              refine lv_aload_n hx hb dX5_isSuspended_62 rfl (lv_at hl 1 rfl) ?_
              refine va_get (D := (dC, dI)) (ci := 5) (v := .ref (am 15)) (C := RX5) (T := TX5) (N := 25) hx hb hts hinX5 hown hK hP 0 rfl rfl 20 (by decide) hfl53 (fun _ h9 => h9) rfl dX5_isSuspended_63 ?_
              refine lv_iload hx hb dX5_isSuspended_66 (lv_at hl 6 rfl) ?_
              refine xa_ild hx hb hK hP 15 0 rfl rfl (by omega) (by decide) dX5_isSuspended_68 ?_
              refine lv_goto (tgt := 73) hx hb dX5_isSuspended_69 (by decide) ?_
              refine lv_istore_n (lv' := [(3, .int (f 14 k)), (6, .int 1), (0, .ref (am 0)), (1, .int t), (2, .int day), (4, .int on), (5, .int (nI k))]) hx hb dX5_isSuspended_73 rfl hl (by decide) rfl (fun ls hl => ?_)
              refine lv_iload hx hb dX5_isSuspended_74 (lv_at hl 1 rfl) ?_
              refine lv_if_eq (tgt := 89) hx hb dX5_isSuspended_76 (by decide) (fun c9 => absurd c9 (by decide)) (fun _ => ?_)
              refine lv_aload_n hx hb dX5_isSuspended_79 rfl (lv_at hl 2 rfl) ?_
              refine va_get (D := (dC, dI)) (ci := 5) (v := .ref (am 16)) (C := RX5) (T := TX5) (N := 25) hx hb hts hinX5 hown hK hP 0 rfl rfl 21 (by decide) hfl56 (fun _ h9 => h9) rfl dX5_isSuspended_80 ?_
              refine lv_iload hx hb dX5_isSuspended_83 (lv_at hl 6 rfl) ?_
              refine xa_zld hx hb hK hP 16 1 rfl rfl (by omega) (by decide) dX5_isSuspended_85 ?_
              refine lv_goto (tgt := 91) hx hb dX5_isSuspended_86 (by decide) ?_
              refine lv_istore (lv' := [(4, .int (f 15 k)), (3, .int (f 14 k)), (6, .int 1), (0, .ref (am 0)), (1, .int t), (2, .int day), (5, .int (nI k))]) hx hb dX5_isSuspended_91 hl (by decide) rfl (fun ls hl => ?_)
              refine lv_iinc (v := nI (k + 1)) (lv' := [(5, .int (nI (k + 1))), (4, .int (f 15 k)), (3, .int (f 14 k)), (6, .int 1), (0, .ref (am 0)), (1, .int t), (2, .int day)]) hx hb dX5_isSuspended_93 hl (k := 6) rfl (xi_inc _) (by decide) rfl (fun ls hl => ?_)
              refine lv_goto (tgt := 8) hx hb dX5_isSuspended_96 (by decide) ?_
              exact ih8 (f 14 k) (f 15 k) (k + 1) ls (by omega) (by omega) (lv_sub hl [4, 5, 6, 2, 1, 0] rfl) (by rw [hF8]; exact hq8)
  refine lp8 (z 3 + 1) (-1) 0 0 ls (by omega) (by omega) (lv_sub hl [3, 4, 5, 2, 1, 0] rfl) (fun ls hl => ?_)
  obtain ⟨r5, hr5⟩ : ∃ y, y = (F_X5_isSuspended_L8 z v f t day (z 3 + 1) (-1) 0 0) := ⟨_, rfl⟩
  rw [← hr5] at hl
  try rw [← hr5] at hF
  refine lv_iload hx hb dX5_isSuspended_99 (lv_at hl 3 rfl) ?_
  subst hQ9
  exact W.zret (ty := .boolean) hx hb hr (by rw [hr5]; exact (zB_X5_isSuspended hok _ _ _ _ _ _ zB_0)) (fun t ht hW => ⟨_, rfl, hF, ht⟩) (fun q h => by cases h) dX5_isSuspended_101
def F_X5_isAlive (z : Nat → Nat) (v : Nat → Int32) (f : Nat → Nat → Int32) (t day : Int32) : Int32 :=
  if F_X5_isEnded z v f t day = 0 then
    if F_X5_isSuspended z v f t day = 0 then
      1
    else
      0
  else
    0
set_option maxHeartbeats 4000000 in
set_option maxRecDepth 100000 in
theorem c_X5_isAlive (l : Launch) (dC : Nat → ClassId) (dI : Nat → Nat → Nat) (am : Nat → Nat) (cI cZ : ClassId) (th : Int32) (z : Nat → Nat) (v : Nat → Int32) (f : Nat → Nat → Int32) (t day : Int32) (hok : okM z v f) (ht : vp_in t 12) : Met l yX5_isAlive wsX5_isAlive ({ frames := 1, cells := 0, slots := 0, locals := 26 }) (va_Pc [.ref (am 0), .int t, .int day] (kM dC dI am cI cZ th z v f)) (vp_Si (fun r => r = F_X5_isAlive z v f t day)) 0 0 (fun _ => False) := by
  refine Met.ofW (cc := cX5_isAlive) (maxL := 3) (ret := (some .boolean)) (by decide) rfl ?_
  intro p e s m args below meth c s₁ B hml hv
  obtain ⟨rfl, hP, hK, hN⟩ := hv
  have hx := B.exec
  have hb := B.bytes
  have hr := B.returns
  have hts := atoms_spec (ws := wsX5_isAlive) B.pre
  have hown : s.vm.findClass RX5 = some m.cls := findClass_of_methodNamed B.named
  have hlocks := B.notSynchronized
  have hok9 := hok
  obtain ⟨hz0, hz1, hz2, hz3, hz4, hbz, hbs, hdp, hgv⟩ := hok9
  have hl := lv_entry ([.ref (am 0), .int t, .int day]) (n := 3) (Nat.le_of_ble_eq_true rfl)
  rw [lg_entry_eq]
  generalize (lg_sl ([.ref (am 0), .int t, .int day]) ++ List.replicate (3 - (lg_sl ([.ref (am 0), .int t, .int day])).length) Slot.unset).toArray = ls at hl ⊢
  have hl : lv_has ls 3 [(0, .ref (am 0)), (1, .int t), (2, .int day)] := hl
  generalize hF : F_X5_isAlive z v f t day = R9
  generalize hQ9 : MQ below (vp_Si (fun r => r = R9)) _ s 0 0 (fun _ => False) = Q9
  rw [F_X5_isAlive] at hF
  refine lv_aload_n hx hb dX5_isAlive_0 rfl (lv_at hl 0 rfl) ?_
  refine lv_iload_n hx hb dX5_isAlive_1 rfl (lv_at hl 1 rfl) ?_
  refine lv_iload_n hx hb dX5_isAlive_2 rfl (lv_at hl 2 rfl) ?_
  refine vp_callSi (W.runV (As := [.int t, .int day]) (rest := []) ⟨hx, hb, hml, hown, hts⟩ (c_X5_isEnded l dC dI am cI cZ th z v f t day hok ht) (cwV 2 hts gX5_isAlive_X5_isEnded rfl rfl rfl (by decide +kernel) ⟨Nat.le_of_ble_eq_true rfl, Nat.le_of_ble_eq_true rfl⟩) (preM (ci := 5) (q0 := 0) hP hK hN rfl rfl rfl) rfl rfl hl.1 rfl (lv_room (Nat.le_of_ble_eq_true rfl)) dX5_isAlive_3 ⟨Nat.zero_le _, Nat.zero_le _⟩) (fun r1 h9 => ?_)
  have hr1 : r1 = F_X5_isEnded z v f t day := h9
  try rw [← hr1] at hF
  refine lv_if_ne (tgt := 22) hx hb dX5_isAlive_6 (by decide) (fun c2 => ?_) (fun c2 => ?_)
  · rw [if_neg c2] at hF
    have c2f : ¬ F_X5_isEnded z v f t day = 0 := by rw [← hr1]; exact c2
    refine lv_iconst (v := 0) hx hb dX5_isAlive_22 (by decide) ?_
    subst hQ9
    exact W.zret (ty := .boolean) hx hb hr rfl (fun t ht hW => ⟨_, rfl, hF, ht⟩) (fun q h => by cases h) dX5_isAlive_23
  · rw [if_pos c2] at hF
    have c2f : F_X5_isEnded z v f t day = 0 := by rw [← hr1]; exact c2
    refine lv_aload_n hx hb dX5_isAlive_9 rfl (lv_at hl 0 rfl) ?_
    refine lv_iload_n hx hb dX5_isAlive_10 rfl (lv_at hl 1 rfl) ?_
    refine lv_iload_n hx hb dX5_isAlive_11 rfl (lv_at hl 2 rfl) ?_
    refine vp_callSi (W.runV (As := [.int t, .int day]) (rest := []) ⟨hx, hb, hml, hown, hts⟩ (c_X5_isSuspended l dC dI am cI cZ th z v f t day hok) (cwV 2 hts gX5_isAlive_X5_isSuspended rfl rfl rfl (by decide +kernel) ⟨Nat.le_of_ble_eq_true rfl, Nat.le_of_ble_eq_true rfl⟩) (preM (ci := 5) (q0 := 0) hP hK hN rfl rfl rfl) rfl rfl hl.1 rfl (lv_room (Nat.le_of_ble_eq_true rfl)) dX5_isAlive_12 ⟨Nat.zero_le _, Nat.zero_le _⟩) (fun r3 h9 => ?_)
    have hr3 : r3 = F_X5_isSuspended z v f t day := h9
    try rw [← hr3] at hF
    refine lv_if_ne (tgt := 22) hx hb dX5_isAlive_15 (by decide) (fun c4 => ?_) (fun c4 => ?_)
    · rw [if_neg c4] at hF
      have c4f : ¬ F_X5_isSuspended z v f t day = 0 := by rw [← hr3]; exact c4
      refine lv_iconst (v := 0) hx hb dX5_isAlive_22 (by decide) ?_
      subst hQ9
      exact W.zret (ty := .boolean) hx hb hr rfl (fun t ht hW => ⟨_, rfl, hF, ht⟩) (fun q h => by cases h) dX5_isAlive_23
    · rw [if_pos c4] at hF
      have c4f : F_X5_isSuspended z v f t day = 0 := by rw [← hr3]; exact c4
      refine lv_iconst (v := 1) hx hb dX5_isAlive_18 (by decide) ?_
      refine lv_goto (tgt := 23) hx hb dX5_isAlive_19 (by decide) ?_
      subst hQ9
      exact W.zret (ty := .boolean) hx hb hr rfl (fun t ht hW => ⟨_, rfl, hF, ht⟩) (fun q h => by cases h) dX5_isAlive_23
def F_X5_standing_L5 (z : Nat → Nat) (v : Nat → Int32) (f : Nat → Nat → Int32) (t day : Int32)  : Nat → Int32 → Nat → Int32
  | 0, nb, k => nb
  | n5 + 1, nb, k =>
    if z 2 ≤ k then
      nb
    else
      if f 10 k = t then
        if f 12 k < day then
          F_X5_standing_L5 z v f t day n5 (nb + 0) (k + 1)
        else
          F_X5_standing_L5 z v f t day n5 (nb + 1) (k + 1)
      else
        F_X5_standing_L5 z v f t day n5 (nb + 0) (k + 1)
def F_X5_standing (z : Nat → Nat) (v : Nat → Int32) (f : Nat → Nat → Int32) (t day : Int32) : Int32 :=
  (F_X5_standing_L5 z v f t day (z 2 + 1) 0 0)
set_option maxHeartbeats 4000000 in
set_option maxRecDepth 100000 in
theorem c_X5_standing (l : Launch) (dC : Nat → ClassId) (dI : Nat → Nat → Nat) (am : Nat → Nat) (cI cZ : ClassId) (th : Int32) (z : Nat → Nat) (v : Nat → Int32) (f : Nat → Nat → Int32) (t day : Int32) (hok : okM z v f) : Met l yX5_standing wsX5_standing ({ frames := 0, cells := 0, slots := 0, locals := 0 }) (va_Pc [.ref (am 0), .int t, .int day] (kM dC dI am cI cZ th z v f)) (vp_Si (fun r => r = F_X5_standing z v f t day)) 0 0 (fun _ => False) := by
  refine Met.ofW (cc := cX5_standing) (maxL := 5) (ret := (some .int)) (by decide) rfl ?_
  intro p e s m args below meth c s₁ B hml hv
  obtain ⟨rfl, hP, hK, hN⟩ := hv
  have hx := B.exec
  have hb := B.bytes
  have hr := B.returns
  have hts := atoms_spec (ws := wsX5_standing) B.pre
  have hown : s.vm.findClass RX5 = some m.cls := findClass_of_methodNamed B.named
  have hlocks := B.notSynchronized
  have hok9 := hok
  obtain ⟨hz0, hz1, hz2, hz3, hz4, hbz, hbs, hdp, hgv⟩ := hok9
  have hfl111 := hts (.fieldLink RX5 111 "TraderRightsModel" "mandates" "I") (List.mem_of_getElem? (i := 1) rfl)
  have hfl40 := hts (.fieldLink RX5 40 "TraderRightsModel" "taker" "[I") (List.mem_of_getElem? (i := 2) rfl)
  have hfl47 := hts (.fieldLink RX5 47 "TraderRightsModel" "until" "[I") (List.mem_of_getElem? (i := 3) rfl)
  have hinX5 : ∀ w ∈ u_ws RX5 TX5 25, w ∈ wsX5_standing := fun w h => List.mem_cons_of_mem _ (List.mem_append_right _ h)
  have hl := lv_entry ([.ref (am 0), .int t, .int day]) (n := 5) (Nat.le_of_ble_eq_true rfl)
  rw [lg_entry_eq]
  generalize (lg_sl ([.ref (am 0), .int t, .int day]) ++ List.replicate (5 - (lg_sl ([.ref (am 0), .int t, .int day])).length) Slot.unset).toArray = ls at hl ⊢
  have hl : lv_has ls 5 [(0, .ref (am 0)), (1, .int t), (2, .int day)] := hl
  generalize hF : F_X5_standing z v f t day = R9
  generalize hQ9 : MQ below (vp_Si (fun r => r = R9)) _ s 0 0 (fun _ => False) = Q9
  rw [F_X5_standing] at hF
  refine lv_iconst (v := 0) hx hb dX5_standing_0 (by decide) ?_
  refine lv_istore_n (lv' := [(3, .int 0), (0, .ref (am 0)), (1, .int t), (2, .int day)]) hx hb dX5_standing_1 rfl hl (by decide) rfl (fun ls hl => ?_)
  refine lv_iconst (v := 0) hx hb dX5_standing_2 (by decide) ?_
  refine lv_istore (lv' := [(4, .int 0), (3, .int 0), (0, .ref (am 0)), (1, .int t), (2, .int day)]) hx hb dX5_standing_3 hl (by decide) rfl (fun ls hl => ?_)
  have lp5 : ∀ (n5 : Nat) (nb : Int32) (k : Nat) (ls : Array Slot), k ≤ z 2 → z 2 < k + n5 → lv_has ls 5 [(0, .ref (am 0)), (1, .int t), (2, .int day), (3, .int nb), (4, .int (nI k))] → (∀ ls : Array Slot, lv_has ls 5 [(0, .ref (am 0)), (1, .int t), (2, .int day), (3, .int (F_X5_standing_L5 z v f t day n5 nb k))] → W p l e (headSpec wsX5_standing ({ frames := 0, cells := 0, slots := 0, locals := 0 })).room s m ([.ref (am 0), .int t, .int day] : List Value).toArray below meth c s.heap [] 0 0 Q9 (F0 m 50 ls [])) → W p l e (headSpec wsX5_standing ({ frames := 0, cells := 0, slots := 0, locals := 0 })).room s m ([.ref (am 0), .int t, .int day] : List Value).toArray below meth c s.heap [] 0 0 Q9 (F0 m 5 ls []) := by
    intro n5
    induction n5 with
    | zero =>
      intro nb k ls hk5 hn5
      exact absurd hn5 (by omega)
    | succ n5 ih5 =>
      intro nb k ls hk5 hn5 hl hq5
      generalize hF5 : F_X5_standing_L5 z v f t day (n5 + 1) nb k = R5 at hq5
      rw [F_X5_standing_L5] at hF5
      refine lv_iload hx hb dX5_standing_5 (lv_at hl 4 rfl) ?_
      refine lv_aload_n hx hb dX5_standing_7 rfl (lv_at hl 0 rfl) ?_
      refine va_get (D := (dC, dI)) (ci := 5) (v := .int (nI (z 2))) (C := RX5) (T := TX5) (N := 25) hx hb hts hinX5 hown hK hP 0 rfl rfl 3 (by decide) hfl111 (fun _ h9 => h9) rfl dX5_standing_8 ?_
      refine lv_icmp_ge (tgt := 50) hx hb dX5_standing_11 (by decide) (fun c1 => ?_) (fun c1 => ?_)
      · have c1 : z 2 ≤ k := (nI_leI (a := z 2) (b := k) (by omega) (by omega)).mp c1
        rw [if_pos c1] at hF5
        subst hF5
        exact hq5 ls (lv_sub hl [0, 1, 2, 3] rfl)
      · have c1 : ¬ z 2 ≤ k := fun h9 => c1 ((nI_leI (a := z 2) (b := k) (by omega) (by omega)).mpr h9)
        rw [if_neg c1] at hF5
        refine lv_iload_n hx hb dX5_standing_14 rfl (lv_at hl 3 rfl) ?_
        refine lv_aload_n hx hb dX5_standing_15 rfl (lv_at hl 0 rfl) ?_
        refine va_get (D := (dC, dI)) (ci := 5) (v := .ref (am 11)) (C := RX5) (T := TX5) (N := 25) hx hb hts hinX5 hown hK hP 0 rfl rfl 16 (by decide) hfl40 (fun _ h9 => h9) rfl dX5_standing_16 ?_
        refine lv_iload hx hb dX5_standing_19 (lv_at hl 4 rfl) ?_
        refine xa_ild hx hb hK hP 11 0 rfl rfl (by omega) (by decide) dX5_standing_21 ?_
        refine lv_iload_n hx hb dX5_standing_22 rfl (lv_at hl 1 rfl) ?_
        refine lv_icmp_ne (tgt := 41) hx hb dX5_standing_23 (by decide) (fun c2 => ?_) (fun c2 => ?_)
        · rw [if_neg c2] at hF5
          refine lv_iconst (v := 0) hx hb dX5_standing_41 (by decide) ?_
          refine lv_iadd hx hb dX5_standing_42 ?_
          refine lv_istore_n (lv' := [(3, .int (nb + 0)), (0, .ref (am 0)), (1, .int t), (2, .int day), (4, .int (nI k))]) hx hb dX5_standing_43 rfl hl (by decide) rfl (fun ls hl => ?_)
          refine lv_iinc (v := nI (k + 1)) (lv' := [(4, .int (nI (k + 1))), (3, .int (nb + 0)), (0, .ref (am 0)), (1, .int t), (2, .int day)]) hx hb dX5_standing_44 hl (k := 4) rfl (xi_inc _) (by decide) rfl (fun ls hl => ?_)
          refine lv_goto (tgt := 5) hx hb dX5_standing_47 (by decide) ?_
          exact ih5 (nb + 0) (k + 1) ls (by omega) (by omega) (lv_sub hl [2, 3, 4, 1, 0] rfl) (by rw [hF5]; exact hq5)
        · rw [if_pos c2] at hF5
          refine lv_aload_n hx hb dX5_standing_26 rfl (lv_at hl 0 rfl) ?_
          refine va_get (D := (dC, dI)) (ci := 5) (v := .ref (am 13)) (C := RX5) (T := TX5) (N := 25) hx hb hts hinX5 hown hK hP 0 rfl rfl 18 (by decide) hfl47 (fun _ h9 => h9) rfl dX5_standing_27 ?_
          refine lv_iload hx hb dX5_standing_30 (lv_at hl 4 rfl) ?_
          refine xa_ild hx hb hK hP 13 0 rfl rfl (by omega) (by decide) dX5_standing_32 ?_
          refine lv_iload_n hx hb dX5_standing_33 rfl (lv_at hl 2 rfl) ?_
          refine lv_icmp_lt (tgt := 41) hx hb dX5_standing_34 (by decide) (fun c3 => ?_) (fun c3 => ?_)
          · rw [if_pos c3] at hF5
            refine lv_iconst (v := 0) hx hb dX5_standing_41 (by decide) ?_
            refine lv_iadd hx hb dX5_standing_42 ?_
            refine lv_istore_n (lv' := [(3, .int (nb + 0)), (0, .ref (am 0)), (1, .int t), (2, .int day), (4, .int (nI k))]) hx hb dX5_standing_43 rfl hl (by decide) rfl (fun ls hl => ?_)
            refine lv_iinc (v := nI (k + 1)) (lv' := [(4, .int (nI (k + 1))), (3, .int (nb + 0)), (0, .ref (am 0)), (1, .int t), (2, .int day)]) hx hb dX5_standing_44 hl (k := 4) rfl (xi_inc _) (by decide) rfl (fun ls hl => ?_)
            refine lv_goto (tgt := 5) hx hb dX5_standing_47 (by decide) ?_
            exact ih5 (nb + 0) (k + 1) ls (by omega) (by omega) (lv_sub hl [2, 3, 4, 1, 0] rfl) (by rw [hF5]; exact hq5)
          · rw [if_neg c3] at hF5
            refine lv_iconst (v := 1) hx hb dX5_standing_37 (by decide) ?_
            refine lv_goto (tgt := 42) hx hb dX5_standing_38 (by decide) ?_
            refine lv_iadd hx hb dX5_standing_42 ?_
            refine lv_istore_n (lv' := [(3, .int (nb + 1)), (0, .ref (am 0)), (1, .int t), (2, .int day), (4, .int (nI k))]) hx hb dX5_standing_43 rfl hl (by decide) rfl (fun ls hl => ?_)
            refine lv_iinc (v := nI (k + 1)) (lv' := [(4, .int (nI (k + 1))), (3, .int (nb + 1)), (0, .ref (am 0)), (1, .int t), (2, .int day)]) hx hb dX5_standing_44 hl (k := 4) rfl (xi_inc _) (by decide) rfl (fun ls hl => ?_)
            refine lv_goto (tgt := 5) hx hb dX5_standing_47 (by decide) ?_
            exact ih5 (nb + 1) (k + 1) ls (by omega) (by omega) (lv_sub hl [2, 3, 4, 1, 0] rfl) (by rw [hF5]; exact hq5)
  refine lp5 (z 2 + 1) 0 0 ls (by omega) (by omega) (lv_sub hl [2, 3, 4, 1, 0] rfl) (fun ls hl => ?_)
  obtain ⟨r4, hr4⟩ : ∃ y, y = (F_X5_standing_L5 z v f t day (z 2 + 1) 0 0) := ⟨_, rfl⟩
  rw [← hr4] at hl
  try rw [← hr4] at hF
  refine lv_iload_n hx hb dX5_standing_50 rfl (lv_at hl 3 rfl) ?_
  subst hQ9
  exact W.iret hx hb hr (fun t ht hW => ⟨_, rfl, hF, ht⟩) (fun q h => by cases h) dX5_standing_51
