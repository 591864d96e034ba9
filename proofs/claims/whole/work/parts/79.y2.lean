theorem pu_count {zx zm : Nat → Nat} {vx vm : Nat → Int32} {fx fm : Nat → Nat → Int32} (h : REL zx vx fx zm vm fm) (w : Int32) : (F_X4_count zx vx fx w) = (F_X5_count zm vm fm w).1 ∧ REL zx vx fx (F_X5_count zm vm fm w).2.2.1 (F_X5_count zm vm fm w).2.2.2.1 (F_X5_count zm vm fm w).2.2.2.2 := by
  obtain ⟨hx, hm, rfl, hv, hr⟩ := h
  rw [F_X4_count, F_X5_count]
  repeat' split
  all_goals first | exact ⟨rfl, hx, hm, rfl, hv, hr⟩ | exact ⟨hv.1, hx, hm, rfl, hv, hr⟩
theorem pu_certified {zx zm : Nat → Nat} {vx vm : Nat → Int32} {fx fm : Nat → Nat → Int32} (h : REL zx vx fx zm vm fm) : (F_X4_certified zx vx fx) = (F_X5_certified zm vm fm).1 ∧ REL zx vx fx (F_X5_certified zm vm fm).2.2.1 (F_X5_certified zm vm fm).2.2.2.1 (F_X5_certified zm vm fm).2.2.2.2 := by
  obtain ⟨hx, hm, rfl, hv, hr⟩ := h
  exact ⟨hv.2, hx, hm, rfl, hv, hr⟩
theorem pu_trader {zx zm : Nat → Nat} {vx vm : Nat → Int32} {fx fm : Nat → Nat → Int32} (h : REL zx vx fx zm vm fm) : (F_X5_trader zm vm fm).2.1 = hc_trader (F_X4_trader zx vx fx).1 ∧ ((F_X4_trader zx vx fx).1 = 0 → (F_X4_trader zx vx fx).2.1 = (F_X5_trader zm vm fm).1) ∧ REL (F_X4_trader zx vx fx).2.2.1 (F_X4_trader zx vx fx).2.2.2.1 (F_X4_trader zx vx fx).2.2.2.2 (F_X5_trader zm vm fm).2.2.1 (F_X5_trader zm vm fm).2.2.2.1 (F_X5_trader zm vm fm).2.2.2.2 := by
  obtain ⟨⟨x0, x1, x2, x3, x4, x5, x6⟩, ⟨m0, m1, m2, m3, m4, m5, m6, m7, m8⟩, rfl, hv, hF, hT, hD, hG, hB, hR, hM, hL⟩ := h
  rw [F_X4_trader, F_X5_trader]
  by_cases c : zx 0 < 12
  · rw [if_pos c, if_neg (show ¬ zx 0 = 12 by omega)]
    refine ⟨rfl, fun _ => rfl, ⟨by show zx 0 + 1 ≤ 12; omega, x1, x2, x3, x4, x5, x6⟩, ⟨by show zx 0 + 1 ≤ 12; omega, m1, m2, m3, m4, m5, m6, ?_, m8⟩, rfl, hv, hF, ?_, ?_, hG.mono (Nat.le_succ _), hB, hR.mono (Nat.le_succ _), hM.mono (Nat.le_succ _), hL⟩
    · intro k hk
      show upd (fm 2) (zx 0) (-1) k < 0 ∨ vp_in (upd (fm 2) (zx 0) (-1) k) 12
      by_cases e : k = zx 0
      · subst e; rw [upds]; exact Or.inl (by decide)
      · rw [updn e]
        have hk : k < zx 0 + 1 := hk
        exact m7 k (by omega)
    · refine ⟨fun k hk => ?_, fun k h1 h2 => ?_⟩
      · show fx 3 k = upd (fm 2) (zx 0) (-1) k ∧ fx 4 k = upd (fm 3) (zx 0) (-1) k ∧ (upd (fm 3) (zx 0) (-1) k = -1 ∨ ¬ upd (fm 3) (zx 0) (-1) k < 0)
        have hk : k < zx 0 + 1 := hk
        by_cases e : k = zx 0
        · subst e
          rw [upds, upds]
          obtain ⟨-, a2, a3⟩ := hT.2 (zx 0) c (Nat.le_refl _)
          exact ⟨a2, a3, Or.inl rfl⟩
        · rw [updn e, updn e]; exact hT.1 k (by omega)
      · have h2 : zx 0 + 1 ≤ k := h2
        exact hT.2 k h1 (by omega)
    · refine ⟨fun k hk => ?_, fun k hk => ?_⟩
      · show fx 2 k = -1 ∨ ∃ d, d < zx 0 + 1 ∧ fx 2 k = nI d ∧ upd (fm 2) (zx 0) (-1) d = nI k
        have hk : k < zx 0 + 1 := hk
        by_cases e : k = zx 0
        · subst e; exact Or.inl (hT.2 (zx 0) c (Nat.le_refl _)).1
        · rcases hD.1 k (by omega) with a | ⟨d, a1, a2, a3⟩
          · exact Or.inl a
          · exact Or.inr ⟨d, by omega, a2, by rw [updn (by omega)]; exact a3⟩
      · show upd (fm 2) (zx 0) (-1) k = -1 ∨ ∃ i, i < zx 0 + 1 ∧ upd (fm 2) (zx 0) (-1) k = nI i ∧ fx 2 i = nI k
        have hk : k < zx 0 + 1 := hk
        by_cases e : k = zx 0
        · subst e; rw [upds]; exact Or.inl rfl
        · rw [updn e]
          rcases hD.2 k (by omega) with a | ⟨i, a1, a2, a3⟩
          · exact Or.inl a
          · exact Or.inr ⟨i, by omega, a2, a3⟩
  · have e12 : zx 0 = 12 := by omega
    rw [if_neg c, if_pos e12]
    exact ⟨rfl, fun h9 => by simp at h9, ⟨x0, x1, x2, x3, x4, x5, x6⟩, ⟨m0, m1, m2, m3, m4, m5, m6, m7, m8⟩, rfl, hv, hF, hT, hD, hG, hB, hR, hM, hL⟩
theorem nlt_le {a b : Int32} : (¬ a < b) ↔ b ≤ a := by
  rw [Int32.lt_iff_toInt_lt, Int32.le_iff_toInt_le]; omega
/-- a row of rights more -/
theorem rR.add {n r : Nat} {a b p : Nat → Int32} {t c q : Int32} (h : rR n r a b p) (ht : ∃ i, i < n ∧ t = nI i) (hc : ∃ i, i < 8 ∧ c = nI i) (hq : q = -1 ∨ ∃ i, i < 8 ∧ q = nI i) : rR n (r + 1) (upd a r t) (upd b r c) (upd p r q) := fun k hk => by
  by_cases e : k = r
  · subst e; rw [upds, upds, upds]; exact ⟨ht, hc, hq⟩
  · rw [updn e, updn e, updn e]; exact h k (by omega)
theorem rM.add {n r : Nat} {a b : Nat → Int32} {t c : Int32} (h : rM n r a b) (ht : ∃ i, i < n ∧ t = nI i) (hc : ∃ i, i < n ∧ c = nI i) : rM n (r + 1) (upd a r t) (upd b r c) := fun k hk => by
  by_cases e : k = r
  · subst e; rw [upds, upds]; exact ⟨ht, hc⟩
  · rw [updn e, updn e]; exact h k (by omega)
theorem pl_or {pl : Int32} (h : pl = -1 ∨ ¬ F_X5_isEight pl = 0) : pl = -1 ∨ ∃ i, i < 8 ∧ pl = nI i := h.elim Or.inl (fun h => Or.inr (is8_nat h))
theorem pu_right_ok {zx : Nat → Nat} {vx vm : Nat → Int32} {fx fm : Nat → Nat → Int32} (h : REL zx vx fx zx vm fm) {t a pl fr to : Int32} (c : zx 1 < 60) (ht : ¬ F_X5_isTrader zx vm fm t = 0) (ha : ¬ F_X5_isEight a = 0) (hp : pl = -1 ∨ ¬ F_X5_isEight pl = 0) : REL (uu zx 1 (zx 1 + 1)) vx (uu (uu (uu (uu (uu fx 5 (upd (fx 5) (zx 1) t)) 6 (upd (fx 6) (zx 1) a)) 7 (upd (fx 7) (zx 1) pl)) 8 (upd (fx 8) (zx 1) fr)) 9 (upd (fx 9) (zx 1) to)) (uu zx 1 (zx 1 + 1)) vm (uu (uu (uu (uu (uu fm 4 (upd (fm 4) (zx 1) t)) 5 (upd (fm 5) (zx 1) a)) 6 (upd (fm 6) (zx 1) pl)) 7 (upd (fm 7) (zx 1) fr)) 8 (upd (fm 8) (zx 1) to)) := by
  obtain ⟨⟨x0, x1, x2, x3, x4, x5, x6⟩, ⟨m0, m1, m2, m3, m4, m5, m6, m7, m8⟩, -, hv, ⟨f0, ⟨f1, f2, f3, f4, f5⟩, f6⟩, hT, hD, hG, hB, hR, hM, hL⟩ := h
  refine ⟨⟨x0, by show zx 1 + 1 ≤ 60; omega, x2, x3, x4, x5, x6⟩, ⟨m0, by show zx 1 + 1 ≤ 60; omega, m2, m3, m4, m5, m6, m7, m8⟩, rfl, hv, ⟨f0, ⟨?_, ?_, ?_, ?_, ?_⟩, f6⟩, hT, hD, hG, hB, ?_, hM, hL⟩
  · show upd (fx 5) (zx 1) t = upd (fm 4) (zx 1) t; rw [f1]
  · show upd (fx 6) (zx 1) a = upd (fm 5) (zx 1) a; rw [f2]
  · show upd (fx 7) (zx 1) pl = upd (fm 6) (zx 1) pl; rw [f3]
  · show upd (fx 8) (zx 1) fr = upd (fm 7) (zx 1) fr; rw [f4]
  · show upd (fx 9) (zx 1) to = upd (fm 8) (zx 1) to; rw [f5]
  · exact hR.add (isT_nat m0 ht) (is8_nat ha) (pl_or hp)
theorem pu_right {zx zm : Nat → Nat} {vx vm : Nat → Int32} {fx fm : Nat → Nat → Int32} (h : REL zx vx fx zm vm fm) (t a pl fr to : Int32) : (F_X5_right zm vm fm t a pl fr to).2.1 = hc_right (F_X4_right zx vx fx t a pl fr to).1 ∧ ((F_X4_right zx vx fx t a pl fr to).1 = 0 → (F_X4_right zx vx fx t a pl fr to).2.1 = (F_X5_right zm vm fm t a pl fr to).1) ∧ REL (F_X4_right zx vx fx t a pl fr to).2.2.1 (F_X4_right zx vx fx t a pl fr to).2.2.2.1 (F_X4_right zx vx fx t a pl fr to).2.2.2.2 (F_X5_right zm vm fm t a pl fr to).2.2.1 (F_X5_right zm vm fm t a pl fr to).2.2.2.1 (F_X5_right zm vm fm t a pl fr to).2.2.2.2 := by
  obtain ⟨hx, hm, rfl, hr⟩ := id h
  have h1 := hm.2.1
  rw [F_X4_right, F_X5_right]
  simp only [eqTr zx vx vm fx fm, eqAct, eqPlace, eqDay]
  by_cases c1 : F_X5_isTrader zx vm fm t = 0
  · rw [if_pos c1, if_pos c1]; exact ⟨rfl, fun h9 => by simp at h9, h⟩
  rw [if_neg c1, if_neg c1]
  by_cases c2 : F_X5_isEight a = 0
  · rw [if_pos c2, if_pos c2]; exact ⟨rfl, fun h9 => by simp at h9, h⟩
  rw [if_neg c2, if_neg c2]
  by_cases c3 : pl = -1
  · rw [if_pos c3, if_pos c3]
    by_cases c4 : F_X5_isDay fr = 0
    · rw [if_pos c4, if_pos c4]; exact ⟨rfl, fun h9 => by simp at h9, h⟩
    rw [if_neg c4, if_neg c4]
    by_cases c5 : F_X5_isDay to = 0
    · rw [if_pos c5, if_pos c5]; exact ⟨rfl, fun h9 => by simp at h9, h⟩
    rw [if_neg c5, if_neg c5]
    by_cases c6 : fr ≤ to
    · rw [if_pos c6, if_neg (nlt_le.mpr c6)]
      by_cases c7 : zx 1 < 60
      · rw [if_pos c7, if_neg (show ¬ zx 1 = 60 by omega)]
        exact ⟨rfl, fun _ => rfl, pu_right_ok h c7 c1 c2 (Or.inl c3)⟩
      · rw [if_neg c7, if_pos (show zx 1 = 60 by omega)]; exact ⟨rfl, fun h9 => by simp at h9, h⟩
    · rw [if_neg c6, if_pos (Decidable.not_not.mp (fun e => c6 (nlt_le.mp e)))]; exact ⟨rfl, fun h9 => by simp at h9, h⟩
  · rw [if_neg c3, if_neg c3]
    by_cases c8 : F_X5_isEight pl = 0
    · rw [if_pos c8, if_pos c8]; exact ⟨rfl, fun h9 => by simp at h9, h⟩
    rw [if_neg c8, if_neg c8]
    by_cases c4 : F_X5_isDay fr = 0
    · rw [if_pos c4, if_pos c4]; exact ⟨rfl, fun h9 => by simp at h9, h⟩
    rw [if_neg c4, if_neg c4]
    by_cases c5 : F_X5_isDay to = 0
    · rw [if_pos c5, if_pos c5]; exact ⟨rfl, fun h9 => by simp at h9, h⟩
    rw [if_neg c5, if_neg c5]
    by_cases c6 : fr ≤ to
    · rw [if_pos c6, if_neg (nlt_le.mpr c6)]
      by_cases c7 : zx 1 < 60
      · rw [if_pos c7, if_neg (show ¬ zx 1 = 60 by omega)]
        exact ⟨rfl, fun _ => rfl, pu_right_ok h c7 c1 c2 (Or.inr c8)⟩
      · rw [if_neg c7, if_pos (show zx 1 = 60 by omega)]; exact ⟨rfl, fun h9 => by simp at h9, h⟩
    · rw [if_neg c6, if_pos (Decidable.not_not.mp (fun e => c6 (nlt_le.mp e)))]; exact ⟨rfl, fun h9 => by simp at h9, h⟩
theorem pu_mandate {zx zm : Nat → Nat} {vx vm : Nat → Int32} {fx fm : Nat → Nat → Int32} (h : REL zx vx fx zm vm fm) (fr to di un : Int32) (hdi : zB di) : (F_X5_mandate zm vm fm fr to di un).2.1 = hc_mandate (F_X4_mandate zx vx fx fr to di un).1 ∧ ((F_X4_mandate zx vx fx fr to di un).1 = 0 → (F_X4_mandate zx vx fx fr to di un).2.1 = (F_X5_mandate zm vm fm fr to di un).1) ∧ REL (F_X4_mandate zx vx fx fr to di un).2.2.1 (F_X4_mandate zx vx fx fr to di un).2.2.2.1 (F_X4_mandate zx vx fx fr to di un).2.2.2.2 (F_X5_mandate zm vm fm fr to di un).2.2.1 (F_X5_mandate zm vm fm fr to di un).2.2.2.1 (F_X5_mandate zm vm fm fr to di un).2.2.2.2 := by
  obtain ⟨⟨x0, x1, x2, x3, x4, x5, x6⟩, ⟨m0, m1, m2, m3, m4, m5, m6, m7, m8⟩, rfl, hv, ⟨f0, f1, ⟨f2, f3, f4, f5⟩, f6⟩, hT, hD, hG, hB, hR, hM, hL⟩ := id h
  rw [F_X4_mandate, F_X5_mandate]
  simp only [eqTwo zx vx vm fx fm, eqDay]
  by_cases c1 : F_X5_areTwo zx vm fm fr to = 0
  · rw [if_pos c1, if_pos c1]; exact ⟨rfl, fun h9 => by simp at h9, h⟩
  rw [if_neg c1, if_neg c1]
  by_cases c2 : F_X5_isDay un = 0
  · rw [if_pos c2, if_pos c2]; exact ⟨rfl, fun h9 => by simp at h9, h⟩
  rw [if_neg c2, if_neg c2]
  by_cases c7 : zx 2 < 60
  · rw [if_pos c7, if_neg (show ¬ zx 2 = 60 by omega)]
    obtain ⟨i, j, hi, hj, -, e1, e2⟩ := two_nat m0 c1
    refine ⟨rfl, fun _ => rfl, ⟨x0, x1, by show zx 2 + 1 ≤ 60; omega, x3, x4, zB_upd x5 hdi, x6⟩, ⟨m0, m1, by show zx 2 + 1 ≤ 60; omega, m3, m4, zB_upd m5 hdi, m6, m7, ?_⟩, rfl, hv, ⟨f0, f1, ⟨?_, ?_, ?_, ?_⟩, f6⟩, hT, hD, hG, hB, hR, hM.add ⟨i, hi, e1⟩ ⟨j, hj, e2⟩, hL⟩
    · intro k hk
      show vp_in (upd (fm 9) (zx 2) fr k) 12
      have hk : k < zx 2 + 1 := hk
      by_cases e : k = zx 2
      · subst e; rw [upds, e1]; exact vp_in_nI (by omega) (by omega)
      · rw [updn e]; exact m8 k (by omega)
    · show upd (fx 10) (zx 2) fr = upd (fm 9) (zx 2) fr; rw [f2]
    · show upd (fx 11) (zx 2) to = upd (fm 10) (zx 2) to; rw [f3]
    · show upd (fx 12) (zx 2) di = upd (fm 11) (zx 2) di; rw [f4]
    · show upd (fx 13) (zx 2) un = upd (fm 12) (zx 2) un; rw [f5]
  · rw [if_neg c7, if_pos (show zx 2 = 60 by omega)]; exact ⟨rfl, fun h9 => by simp at h9, h⟩
theorem pu_suspend {zx zm : Nat → Nat} {vx vm : Nat → Int32} {fx fm : Nat → Nat → Int32} (h : REL zx vx fx zm vm fm) (t day on : Int32) (hon : zB on) : (F_X5_suspend zm vm fm t day on).2.1 = hc_suspend (F_X4_suspend zx vx fx t day on).1 ∧ ((F_X4_suspend zx vx fx t day on).1 = 0 → (F_X4_suspend zx vx fx t day on).2.1 = (F_X5_suspend zm vm fm t day on).1) ∧ REL (F_X4_suspend zx vx fx t day on).2.2.1 (F_X4_suspend zx vx fx t day on).2.2.2.1 (F_X4_suspend zx vx fx t day on).2.2.2.2 (F_X5_suspend zm vm fm t day on).2.2.1 (F_X5_suspend zm vm fm t day on).2.2.2.1 (F_X5_suspend zm vm fm t day on).2.2.2.2 := by
  obtain ⟨⟨x0, x1, x2, x3, x4, x5, x6⟩, ⟨m0, m1, m2, m3, m4, m5, m6, m7, m8⟩, rfl, hv, ⟨f0, f1, f2, ⟨f3, f4, f5⟩⟩, hT, hD, hG, hB, hR, hM, hL⟩ := id h
  rw [F_X4_suspend, F_X5_suspend]
  simp only [eqTr zx vx vm fx fm, eqDay]
  by_cases c1 : F_X5_isTrader zx vm fm t = 0
  · rw [if_pos c1, if_pos c1]; exact ⟨rfl, fun h9 => by simp at h9, h⟩
  rw [if_neg c1, if_neg c1]
  by_cases c2 : F_X5_isDay day = 0
  · rw [if_pos c2, if_pos c2]; exact ⟨rfl, fun h9 => by simp at h9, h⟩
  rw [if_neg c2, if_neg c2]
  by_cases c7 : zx 3 < 60
  · rw [if_pos c7, if_neg (show ¬ zx 3 = 60 by omega)]
    refine ⟨rfl, fun _ => rfl, ⟨x0, x1, x2, by show zx 3 + 1 ≤ 60; omega, x4, x5, zB_upd x6 hon⟩, ⟨m0, m1, m2, by show zx 3 + 1 ≤ 60; omega, m4, m5, zB_upd m6 hon, m7, m8⟩, rfl, hv, ⟨f0, f1, f2, ⟨?_, ?_, ?_⟩⟩, hT, hD, hG, hB, hR, hM, hL⟩
    · show upd (fx 14) (zx 3) t = upd (fm 13) (zx 3) t; rw [f3]
    · show upd (fx 15) (zx 3) day = upd (fm 14) (zx 3) day; rw [f4]
    · show upd (fx 16) (zx 3) on = upd (fm 15) (zx 3) on; rw [f5]
  · rw [if_neg c7, if_pos (show zx 3 = 60 by omega)]; exact ⟨rfl, fun h9 => by simp at h9, h⟩
theorem pu_end {zx zm : Nat → Nat} {vx vm : Nat → Int32} {fx fm : Nat → Nat → Int32} (h : REL zx vx fx zm vm fm) (t day : Int32) : (F_X4_end zx vx fx t day).1 = (F_X5_end zm vm fm t day).1 ∧ REL (F_X4_end zx vx fx t day).2.1 (F_X4_end zx vx fx t day).2.2.1 (F_X4_end zx vx fx t day).2.2.2 (F_X5_end zm vm fm t day).2.2.1 (F_X5_end zm vm fm t day).2.2.2.1 (F_X5_end zm vm fm t day).2.2.2.2 := by
  obtain ⟨⟨x0, x1, x2, x3, x4, x5, x6⟩, ⟨m0, m1, m2, m3, m4, m5, m6, m7, m8⟩, rfl, hv, hF, hT, hD, hG, hB, hR, hM, hL⟩ := id h
  rw [F_X4_end, F_X5_end]
  simp only [eqTr zx vx vm fx fm, eqDay]
  by_cases c1 : F_X5_isTrader zx vm fm t = 0
  · rw [if_pos c1, if_pos c1]; exact ⟨rfl, h⟩
  rw [if_neg c1, if_neg c1]
  by_cases c2 : F_X5_isDay day = 0
  · rw [if_pos c2, if_pos c2]; exact ⟨rfl, h⟩
  rw [if_neg c2, if_neg c2]
  obtain ⟨j, hj, rfl⟩ := isT_nat m0 c1
  rw [nI_clamp (show j < 2 ^ 31 by omega)]
  obtain ⟨a1, a2, a3⟩ := hT.1 j hj
  by_cases c3 : fx 4 j = -1
  · rw [if_pos c3, if_pos (show fm 3 j < 0 by rw [← a2, c3]; decide)]
    refine ⟨rfl, ⟨x0, x1, x2, x3, x4, x5, x6⟩, ⟨m0, m1, m2, m3, m4, m5, m6, m7, m8⟩, rfl, hv, hF, ⟨fun k hk => ?_, fun k h1 h2 => ?_⟩, hD, hG, hB, hR, hM, hL⟩
    · show fx 3 k = fm 2 k ∧ upd (fx 4) j day k = upd (fm 3) j day k ∧ (upd (fm 3) j day k = -1 ∨ ¬ upd (fm 3) j day k < 0)
      obtain ⟨b1, b2, b3⟩ := hT.1 k hk
      by_cases e : k = j
      · subst e; rw [upds, upds]; exact ⟨b1, rfl, Or.inr (day_nn c2)⟩
      · rw [updn e, updn e]; exact ⟨b1, b2, b3⟩
    · show fx 2 k = -1 ∧ fx 3 k = -1 ∧ upd (fx 4) j day k = -1
      obtain ⟨b1, b2, b3⟩ := hT.2 k h1 h2
      have h2 : zx 0 ≤ k := h2
      rw [updn (by omega)]
      exact ⟨b1, b2, b3⟩
  · rw [if_neg c3, if_neg (show ¬ fm 3 j < 0 from a3.resolve_left (fun e => c3 (by rw [a2, e])))]
    exact ⟨rfl, h⟩
