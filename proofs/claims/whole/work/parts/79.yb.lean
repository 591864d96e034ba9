theorem sz_L {z : Nat → Nat} {vx vm : Nat → Int32} {fx fm : Nat → Nat → Int32} (e1 : fx 11 = fm 10) (e2 : fx 13 = fm 12) (t day : Int32) : ∀ (n : Nat) (nb : Int32) (k : Nat), F_X0_sizeOf_L5 z vx fx t day n nb k = F_X5_standing_L5 z vm fm t day n nb k := by
  intro n
  induction n with
  | zero => intro nb k; rw [F_X0_sizeOf_L5, F_X5_standing_L5]
  | succ n ih =>
    intro nb k
    rw [F_X0_sizeOf_L5, F_X5_standing_L5, e1, e2]
    simp only [ih, Int32.add_zero]
theorem ac_L {z : Nat → Nat} {v : Nat → Int32} {f : Nat → Nat → Int32} {t day nb : Int32} {ac : Nat} : ∀ (n : Nat) (on : Int32) (k : Nat), 8 < k + n → ((¬ F_X5_acts_L18 z v f t day nb ac n on k = 0) ↔ ¬ on = 0 ∨ ∃ q, k ≤ q ∧ q < 8 ∧ ¬ F_X5_has z v f t (nI ac) (nI q) day = 0) := by
  intro n
  induction n with
  | zero =>
    intro on k h
    rw [F_X5_acts_L18]
    exact ⟨Or.inl, fun h => h.elim id (fun ⟨j, a, b, _⟩ => absurd b (by omega))⟩
  | succ n ih =>
    intro on k h
    rw [F_X5_acts_L18]
    by_cases c : 8 ≤ k
    · rw [if_pos c]
      exact ⟨Or.inl, fun h => h.elim id (fun ⟨j, a, b, _⟩ => absurd b (by omega))⟩
    · rw [if_neg c]
      by_cases q : on = 0
      · rw [if_pos q]
        by_cases p : F_X5_has z v f t (nI ac) (nI k) day = 0
        · rw [if_pos p, ih _ _ (by omega)]
          constructor
          · rintro (a | ⟨j, a, b⟩)
            · exact absurd rfl a
            · exact Or.inr ⟨j, by omega, b⟩
          · rintro (a | ⟨j, a, b, d⟩)
            · exact absurd q a
            · by_cases e : j = k
              · subst e; exact absurd p d
              · exact Or.inr ⟨j, by omega, b, d⟩
        · rw [if_neg p, ih _ _ (by omega)]
          exact ⟨fun _ => Or.inr ⟨k, Nat.le_refl _, by omega, p⟩, fun _ => Or.inl (by decide)⟩
      · rw [if_neg q, ih _ _ (by omega)]
        exact ⟨fun _ => Or.inl q, fun _ => Or.inl (by decide)⟩
theorem acts_L {z : Nat → Nat} {v : Nat → Int32} {f : Nat → Nat → Int32} {t day : Int32} {p : Nat → Bool} (hp : ∀ ac, ac < 8 → ((∃ q, q < 8 ∧ ¬ F_X5_has z v f t (nI ac) (nI q) day = 0) ↔ p ac = true)) : ∀ (n ac : Nat), 8 < ac + n → ac ≤ 8 → F_X5_acts_L5 z v f t day n (nI (cnt p ac)) ac = nI (cnt p 8) := by
  intro n
  induction n with
  | zero => intro ac h1 h2; exact absurd h1 (by omega)
  | succ n ih =>
    intro ac h1 h2
    rw [F_X5_acts_L5]
    by_cases c : 8 ≤ ac
    · rw [if_pos c, show ac = 8 by omega]
    · rw [if_neg c]
      have q := ac_L (z := z) (v := v) (f := f) (t := t) (day := day) (nb := nI (cnt p ac)) (ac := ac) (8 + 1) 0 0 (by omega)
      have e : (¬ F_X5_acts_L18 z v f t day (nI (cnt p ac)) ac (8 + 1) 0 0 = 0) ↔ p ac = true := by
        rw [q, ← hp ac (by omega)]
        constructor
        · rintro (a | ⟨j, _, a⟩)
          · exact absurd rfl a
          · exact ⟨j, a⟩
        · rintro ⟨j, a⟩
          exact Or.inr ⟨j, Nat.zero_le _, a⟩
      have ih2 := ih (ac + 1) (by omega) (by omega)
      rw [cnt] at ih2
      by_cases d : p ac = true
      · rw [if_neg (e.mpr d), nI_1]
        rw [if_pos d] at ih2
        exact ih2
      · rw [if_pos (Classical.byContradiction (fun w => d (e.mp w))), Int32.add_zero]
        rw [if_neg d] at ih2
        exact ih2
theorem own_acts {z : Nat → Nat} {vx vm : Nat → Int32} {fx fm : Nat → Nat → Int32} {day : Int32} (h : REL z vx fx z vm fm) (hd : ¬ day < 0) {t : Nat} (ht : t < z 0) : F_J6_bitCount_0f7a4 (F_X4_ownActs z vx fx (nI t) day) = F_X5_acts z vm fm (nI t) day := by
  obtain ⟨-, ⟨m0, m1, m2, m3, m4, m5, m6, m7, m8⟩, -, hv, hF, hT, hD, hG, hB, hR, hM, hL⟩ := h
  have f0 : fx 0 = fm 0 := hF.1.1
  have hGx : rG (z 0) (fx 0) := by rw [f0]; exact hG
  have hal := hal_day (vx := vx) (vm := vm) (day := day) m0 hF hT hd
  obtain ⟨p5, p6, p7, -, -⟩ := hF.2.1
  have src : ∀ c, c < 12 → ((¬ F_X4_holds ((F_X4_bit (nI t)) ||| (F_X4_groupsAmong z vx fx (nI t) (F_X4_aliveOn z vx fx day))) (nI c) = 0) ↔ bt (F_X5_reached z vm fm (nI t) day) c = true) := by
    intro c hc
    rw [holds_bt (by omega), Classical.not_not, bo, b_bit (by omega), ← reach_eq (v := vx) (f := fx) m0 hGx f0 hal ht]
  have bits : ∀ i, i < 32 → (bt (F_X4_ownActs z vx fx (nI t) day) i = true ↔ (∃ j, j < z 1 ∧ (¬ F_X4_holds ((F_X4_bit (nI t)) ||| (F_X4_groupsAmong z vx fx (nI t) (F_X4_aliveOn z vx fx day))) (fx 5 j) = 0 ∧ ¬ F_X2_isOnDay z vx fx (nI j) day = 0) ∧ bt (F_X4_bit (fx 6 j)) i = true) ∧ ¬ bt (fm 1 t) i = true) := by
    intro i hi
    rw [F_X4_ownActs, nI_clamp (show t < 2 ^ 31 by omega), ba, ao_bt, b_xor, b_m1 i hi, hF.1.2, Bool.xor_true, Bool.not_eq_true', ← Bool.not_eq_true]
  have low : ∀ i, 8 ≤ i → ¬ bt (F_X4_ownActs z vx fx (nI t) day) i = true := by
    intro i hi e
    rcases Nat.lt_or_ge i 32 with h32 | h32
    · obtain ⟨⟨j, hj, -, hb⟩, -⟩ := (bits i h32).mp e
      obtain ⟨-, ⟨c, hc, e2⟩, -⟩ := hR j hj
      rw [p6, e2, b_bit (by omega)] at hb
      omega
    · rw [b_big h32] at e; exact Bool.noConfusion e
  rw [bc_cnt (fun i hi => low i (by omega)), cnt_cut low 12 (by omega), F_X5_acts]
  refine (acts_L (p := bt (F_X4_ownActs z vx fx (nI t) day)) (fun ac hac => ?_) (8 + 1) 0 (by omega) (by omega)).symm
  have fb : F_X5_isForbidden z vm fm (nI t) (nI ac) = 0 ↔ ¬ bt (fm 1 t) ac = true := by
    rw [F_X5_isForbidden, nI_clamp (show t < 2 ^ 31 by omega), ← tst_bt (by omega)]
    by_cases c : (((fm 1 t) >>> (nI ac &&& 31)) &&& 1) = 1
    · rw [if_pos c]; exact ⟨fun q => absurd q (by decide), fun q => absurd c q⟩
    · rw [if_neg c]; exact ⟨fun _ => c, fun _ => rfl⟩
  rw [bits ac (by omega), ← fb]
  constructor
  · rintro ⟨q, hq, hh⟩
    obtain ⟨⟨j, hj, a1, a2, a3, a4⟩, a5⟩ := has_iff.mp hh
    obtain ⟨⟨c, hc, e⟩, -⟩ := hR j hj
    rw [e, tst_bt (by omega)] at a4
    refine ⟨⟨j, hj, ⟨?_, ?_⟩, ?_⟩, a5⟩
    · rw [p5, e]; exact (src c (by omega)).mpr a4
    · rw [day_eq hF (by omega)]; exact a3
    · rw [p6, a1, b_bit (by omega)]
  · rintro ⟨⟨j, hj, ⟨a1, a2⟩, a3⟩, a5⟩
    obtain ⟨⟨c, hc, e⟩, ⟨c2, hc2, e2⟩, e3⟩ := hR j hj
    rw [p5, e] at a1
    have a1 := (src c (by omega)).mp a1
    rw [day_eq hF (by omega)] at a2
    rw [p6, e2, b_bit (by omega)] at a3
    have ea : fm 5 j = nI ac := by rw [e2, a3]
    have e4 : (((F_X5_reached z vm fm (nI t) day) >>> ((fm 4 j) &&& 31)) &&& 1) = 1 := by rw [e, tst_bt (by omega)]; exact a1
    rcases e3 with e3 | ⟨q, hq, e3⟩
    · exact ⟨0, by omega, has_iff.mpr ⟨⟨j, hj, ea, Or.inl e3, a2, e4⟩, a5⟩⟩
    · exact ⟨q, hq, has_iff.mpr ⟨⟨j, hj, ea, Or.inr e3, a2, e4⟩, a5⟩⟩
theorem grp_cnt {z : Nat → Nat} {vx vm : Nat → Int32} {fx fm : Nat → Nat → Int32} {day : Int32} (h : REL z vx fx z vm fm) (hd : ¬ day < 0) {t : Nat} (ht : t < z 0) : F_J6_bitCount_0f7a4 (F_X4_groupsAmong z vx fx (nI t) (F_X4_aliveOn z vx fx day)) = F_X5_bits (F_X5_reached z vm fm (nI t) day) - 1 := by
  obtain ⟨-, ⟨m0, m1, m2, m3, m4, m5, m6, m7, m8⟩, -, hv, hF, hT, hD, hG, hB, hR, hM, hL⟩ := h
  have f0 : fx 0 = fm 0 := hF.1.1
  have hGx : rG (z 0) (fx 0) := by rw [f0]; exact hG
  have hal := hal_day (vx := vx) (vm := vm) (day := day) m0 hF hT hd
  have below := fun i hi => ga_below (v := vx) (aw := F_X4_aliveOn z vx fx day) m0 hGx ht (i := i) hi
  rw [bc_cnt (fun i hi e => by have := (below i e).1; omega), bits_cnt]
  rw [cnt_one (p := bt (F_X4_groupsAmong z vx fx (nI t) (F_X4_aliveOn z vx fx day))) (t := t) (fun i => reach_eq (v := vx) (f := fx) m0 hGx f0 hal ht i) (fun e => (below t e).2 rfl) 12, if_pos (show t < 12 by omega), nI_pred]
theorem pu_look {zx zm : Nat → Nat} {vx vm : Nat → Int32} {fx fm : Nat → Nat → Int32} (h : REL zx vx fx zm vm fm) (t day w : Int32) : (F_X5_look zm vm fm t day w).2.1 = hc_look (F_X4_look zx vx fx t day w).1 ∧ ((F_X4_look zx vx fx t day w).1 = 0 → (F_X4_look zx vx fx t day w).2.1 = (F_X5_look zm vm fm t day w).1) ∧ REL (F_X4_look zx vx fx t day w).2.2.1 (F_X4_look zx vx fx t day w).2.2.2.1 (F_X4_look zx vx fx t day w).2.2.2.2 (F_X5_look zm vm fm t day w).2.2.1 (F_X5_look zm vm fm t day w).2.2.2.1 (F_X5_look zm vm fm t day w).2.2.2.2 := by
  obtain ⟨⟨x0, x1, x2, x3, x4, x5, x6⟩, ⟨m0, m1, m2, m3, m4, m5, m6, m7, m8⟩, rfl, hv, hF, hT, hD, hG, hB, hR, hM, hL⟩ := id h
  rw [F_X4_look, F_X5_look, eqTr zx vx vm fx fm, eqDay]
  by_cases c1 : F_X5_isTrader zx vm fm t = 0
  · rw [if_pos c1, if_pos c1]; exact ⟨rfl, fun h9 => by simp at h9, h⟩
  rw [if_neg c1, if_neg c1]
  by_cases c2 : w < 0
  · rw [if_pos c2, if_pos (show F_X5_in w 0 6 = 0 by rw [F_X5_in, if_pos c2])]
    exact ⟨rfl, fun h9 => by simp at h9, h⟩
  rw [if_neg c2]
  by_cases c3 : w < 7
  · have e6 : ¬ 6 < w := by
      rw [Int32.lt_iff_toInt_lt] at c3 ⊢
      have e1 : (6 : Int32).toInt = 6 := rfl
      have e2 : (7 : Int32).toInt = 7 := rfl
      omega
    rw [if_pos c3, if_neg (show ¬ F_X5_in w 0 6 = 0 by rw [F_X5_in, if_neg c2, if_neg e6]; decide)]
    by_cases c4 : F_X5_isDay day = 0
    · rw [if_pos c4, if_pos c4]; exact ⟨rfl, fun h9 => by simp at h9, h⟩
    rw [if_neg c4, if_neg c4]
    have hd := day_nn c4
    obtain ⟨i, hi, rfl⟩ := isT_nat m0 c1
    rw [nI_clamp (show i < 2 ^ 31 by omega), ended_eq (vm := vm) m0 hT hi, on_eq (vm := vm) hF, grp_cnt h hd hi, own_acts h hd hi, wd_eq m0 hD hi, (hT.1 i hi).1]
    have es : F_X0_sizeOf zx vx fx (nI i) day = F_X5_standing zx vm fm (nI i) day := by
      rw [F_X0_sizeOf, F_X5_standing]
      exact sz_L hF.2.2.1.2.1 hF.2.2.1.2.2.2 _ _ _ _ _
    rw [es]
    by_cases w0 : w = 0
    · rw [if_pos w0, if_pos w0]
      by_cases c5 : F_X5_isEnded zx vm fm (nI i) day = 0
      · rw [if_pos c5, if_pos c5]; exact ⟨rfl, fun _ => rfl, h⟩
      · rw [if_neg c5, if_neg c5]; exact ⟨rfl, fun _ => rfl, h⟩
    rw [if_neg w0, if_neg w0]
    by_cases w1 : w = 1
    · rw [if_pos w1, if_pos w1]
      by_cases c5 : F_X5_isSuspended zx vm fm (nI i) day = 0
      · rw [if_pos c5, if_pos c5]; exact ⟨rfl, fun _ => rfl, h⟩
      · rw [if_neg c5, if_neg c5]; exact ⟨rfl, fun _ => rfl, h⟩
    rw [if_neg w1, if_neg w1]
    by_cases w2 : w = 2
    · rw [if_pos w2, if_pos w2]; exact ⟨rfl, fun _ => rfl, h⟩
    rw [if_neg w2, if_neg w2]
    by_cases w3 : w = 3
    · rw [if_pos w3, if_pos w3]; exact ⟨rfl, fun _ => rfl, h⟩
    rw [if_neg w3, if_neg w3]
    by_cases w4 : w = 4
    · rw [if_pos w4, if_pos w4]; exact ⟨rfl, fun _ => rfl, h⟩
    rw [if_neg w4, if_neg w4]
    by_cases w5 : w = 5
    · rw [if_pos w5, if_pos w5]; exact ⟨rfl, fun _ => rfl, h⟩
    rw [if_neg w5, if_neg w5]
    exact ⟨rfl, fun _ => rfl, h⟩
  · have e6 : 6 < w := by
      rw [Int32.lt_iff_toInt_lt] at c3 ⊢
      have e1 : (6 : Int32).toInt = 6 := rfl
      have e2 : (7 : Int32).toInt = 7 := rfl
      omega
    rw [if_neg c3, if_pos (show F_X5_in w 0 6 = 0 by rw [F_X5_in, if_neg c2, if_pos e6])]
    exact ⟨rfl, fun h9 => by simp at h9, h⟩
