/-- a loop that gathers a set -/
theorem acc_loop (L : Nat → Int32 → Nat → Int32) (Z : Nat) (P : Nat → Prop) [∀ k, Decidable (P k)] (y : Nat → Int32) (h0 : ∀ fo k, L 0 fo k = fo) (h1 : ∀ n fo k, L (n + 1) fo k = if Z ≤ k then fo else L n (if P k then fo ||| y k else fo) (k + 1)) (i : Nat) : ∀ (n : Nat) (fo : Int32) (k : Nat), Z < k + n → (bt (L n fo k) i = true ↔ bt fo i = true ∨ ∃ j, k ≤ j ∧ j < Z ∧ P j ∧ bt (y j) i = true) := by
  intro n
  induction n with
  | zero =>
    intro fo k h
    rw [h0]
    exact ⟨Or.inl, fun h => h.elim id (fun ⟨j, a, b, _⟩ => absurd b (by omega))⟩
  | succ n ih =>
    intro fo k h
    rw [h1]
    by_cases c : Z ≤ k
    · rw [if_pos c]
      exact ⟨Or.inl, fun h => h.elim id (fun ⟨j, a, b, _⟩ => absurd b (by omega))⟩
    · rw [if_neg c, ih _ _ (by omega)]
      by_cases p : P k
      · rw [if_pos p, bo]
        constructor
        · rintro ((a | a) | ⟨j, a, b⟩)
          · exact Or.inl a
          · exact Or.inr ⟨k, Nat.le_refl _, by omega, p, a⟩
          · exact Or.inr ⟨j, by omega, b⟩
        · rintro (a | ⟨j, a, b, d, e⟩)
          · exact Or.inl (Or.inl a)
          · by_cases q : j = k
            · subst q; exact Or.inl (Or.inr e)
            · exact Or.inr ⟨j, by omega, b, d, e⟩
      · rw [if_neg p]
        constructor
        · rintro (a | ⟨j, a, b⟩)
          · exact Or.inl a
          · exact Or.inr ⟨j, by omega, b⟩
        · rintro (a | ⟨j, a, b, d, e⟩)
          · exact Or.inl a
          · by_cases q : j = k
            · subst q; exact absurd d p
            · exact Or.inr ⟨j, by omega, b, d, e⟩
theorem acc_all (L : Nat → Int32 → Nat → Int32) (Z : Nat) (P : Nat → Prop) [∀ k, Decidable (P k)] (y : Nat → Int32) (h0 : ∀ fo k, L 0 fo k = fo) (h1 : ∀ n fo k, L (n + 1) fo k = if Z ≤ k then fo else L n (if P k then fo ||| y k else fo) (k + 1)) (i : Nat) : bt (L (Z + 1) 0 0) i = true ↔ ∃ j, j < Z ∧ P j ∧ bt (y j) i = true := by
  rw [acc_loop L Z P y h0 h1 i _ _ _ (by omega), b_0]
  constructor
  · rintro (h | ⟨j, _, h2⟩)
    · exact Bool.noConfusion h
    · exact ⟨j, h2⟩
  · rintro ⟨j, h2⟩
    exact Or.inr ⟨j, Nat.zero_le _, h2⟩
theorem tw_bt {z : Nat → Nat} {v : Nat → Int32} {f : Nat → Nat → Int32} {a pl day : Int32} (i : Nat) : bt (F_X2_tradersWith z v f a pl day) i = true ↔ ∃ j, j < z 1 ∧ ((f 7 j = -1 ∨ f 7 j = pl) ∧ f 6 j = a ∧ ¬ F_X2_isOnDay z v f (nI j) day = 0) ∧ bt (F_X4_bit (f 5 j)) i = true := by
  rw [F_X2_tradersWith]
  refine acc_all (F_X2_tradersWith_L6 z v f a pl day) (z 1) (fun j => (f 7 j = -1 ∨ f 7 j = pl) ∧ f 6 j = a ∧ ¬ F_X2_isOnDay z v f (nI j) day = 0) (fun j => F_X4_bit (f 5 j)) (fun fo k => by rw [F_X2_tradersWith_L6]) (fun n fo k => ?_) i
  rw [F_X2_tradersWith_L6]
  by_cases c : z 1 ≤ k
  · rw [if_pos c, if_pos c]
  rw [if_neg c, if_neg c]
  rcases Classical.propComplete (f 7 k = -1) with e0 | e0 <;> rcases Classical.propComplete (f 7 k = pl) with e1 | e1 <;> rcases Classical.propComplete (f 6 k = a) with e2 | e2 <;> rcases Classical.propComplete (F_X2_isOnDay z v f (nI k) day = 0) with e3 | e3 <;> simp only [e0, e1, e2, e3, if_true, if_false, true_and, false_and, and_true, and_false, true_or, false_or, or_true, or_false, not_true_eq_false, not_false_eq_true]
theorem ao_bt {z : Nat → Nat} {v : Nat → Int32} {f : Nat → Nat → Int32} {so day : Int32} (i : Nat) : bt (F_X2_actsOf z v f so day) i = true ↔ ∃ j, j < z 1 ∧ (¬ F_X4_holds so (f 5 j) = 0 ∧ ¬ F_X2_isOnDay z v f (nI j) day = 0) ∧ bt (F_X4_bit (f 6 j)) i = true := by
  rw [F_X2_actsOf]
  refine acc_all (F_X2_actsOf_L5 z v f so day) (z 1) (fun j => ¬ F_X4_holds so (f 5 j) = 0 ∧ ¬ F_X2_isOnDay z v f (nI j) day = 0) (fun j => F_X4_bit (f 6 j)) (fun fo k => by rw [F_X2_actsOf_L5]) (fun n fo k => ?_) i
  rw [F_X2_actsOf_L5]
  by_cases c : z 1 ≤ k
  · rw [if_pos c, if_pos c]
  rw [if_neg c, if_neg c]
  rcases Classical.propComplete (F_X4_holds so (f 5 k) = 0) with e0 | e0 <;> rcases Classical.propComplete (F_X2_isOnDay z v f (nI k) day = 0) with e1 | e1 <;> simp only [e0, e1, if_true, if_false, true_and, false_and, and_true, and_false, true_or, false_or, or_true, or_false, not_true_eq_false, not_false_eq_true]
theorem gv_bt {z : Nat → Nat} {v : Nat → Int32} {f : Nat → Nat → Int32} {who di day : Int32} (i : Nat) : bt (F_X0_giversTo z v f who di day) i = true ↔ ∃ j, j < z 2 ∧ (f 11 j = who ∧ f 12 j = di ∧ ¬ f 13 j < day) ∧ bt (F_X4_bit (f 10 j)) i = true := by
  rw [F_X0_giversTo]
  refine acc_all (F_X0_giversTo_L6 z v f who di day) (z 2) (fun j => f 11 j = who ∧ f 12 j = di ∧ ¬ f 13 j < day) (fun j => F_X4_bit (f 10 j)) (fun fo k => by rw [F_X0_giversTo_L6]) (fun n fo k => ?_) i
  rw [F_X0_giversTo_L6]
  by_cases c : z 2 ≤ k
  · rw [if_pos c, if_pos c]
  rw [if_neg c, if_neg c]
  rcases Classical.propComplete (f 11 k = who) with e0 | e0 <;> rcases Classical.propComplete (f 12 k = di) with e1 | e1 <;> rcases Classical.propComplete (f 13 k < day) with e2 | e2 <;> simp only [e0, e1, e2, if_true, if_false, true_and, false_and, and_true, and_false, true_or, false_or, or_true, or_false, not_true_eq_false, not_false_eq_true]
theorem ow_bt {z : Nat → Nat} {v : Nat → Int32} {f : Nat → Nat → Int32} {a pl day aw : Int32} (i : Nat) : bt (F_X4_ownersOf z v f a pl day aw) i = true ↔ ∃ j, j < z 0 ∧ (F_X4_isForbidden z v f (nI j) a = 0 ∧ ¬ (((F_X4_bit (nI j)) ||| (F_X4_groupsAmong z v f (nI j) aw)) &&& (F_X2_tradersWith z v f a pl day)) = 0) ∧ bt (F_X4_bit (nI j)) i = true := by
  rw [F_X4_ownersOf]
  refine acc_all (F_X4_ownersOf_L18 z v f a pl day aw (F_X2_tradersWith z v f a pl day)) (z 0) (fun j => F_X4_isForbidden z v f (nI j) a = 0 ∧ ¬ (((F_X4_bit (nI j)) ||| (F_X4_groupsAmong z v f (nI j) aw)) &&& (F_X2_tradersWith z v f a pl day)) = 0) (fun j => F_X4_bit (nI j)) (fun fo k => by rw [F_X4_ownersOf_L18]) (fun n fo k => ?_) i
  rw [F_X4_ownersOf_L18]
  by_cases c : z 0 ≤ k
  · rw [if_pos c, if_pos c]
  rw [if_neg c, if_neg c]
  rcases Classical.propComplete (F_X4_isForbidden z v f (nI k) a = 0) with e0 | e0 <;> rcases Classical.propComplete ((((F_X4_bit (nI k)) ||| (F_X4_groupsAmong z v f (nI k) aw)) &&& (F_X2_tradersWith z v f a pl day)) = 0) with e1 | e1 <;> simp only [e0, e1, if_true, if_false, true_and, false_and, and_true, and_false, true_or, false_or, or_true, or_false, not_true_eq_false, not_false_eq_true]
theorem has_step {z : Nat → Nat} {v : Nat → Int32} {f : Nat → Nat → Int32} {t a pl day x5 : Int32} (n : Nat) (on : Int32) (k : Nat) : F_X5_has_L15 z v f t a pl day x5 (n + 1) on k = if z 1 ≤ k then on else F_X5_has_L15 z v f t a pl day x5 n (if on = 0 then (if f 5 k = a ∧ (f 6 k = -1 ∨ f 6 k = pl) ∧ ¬ F_X5_in day (f 7 k) (f 8 k) = 0 ∧ ((x5 >>> ((f 4 k) &&& 31)) &&& 1) = 1 then 1 else 0) else 1) (k + 1) := by
  rw [F_X5_has_L15]
  by_cases c : z 1 ≤ k
  · rw [if_pos c, if_pos c]
  rw [if_neg c, if_neg c]
  rcases Classical.propComplete (f 5 k = a) with e0 | e0 <;> rcases Classical.propComplete (f 6 k = -1) with e1 | e1 <;> rcases Classical.propComplete (f 6 k = pl) with e2 | e2 <;> rcases Classical.propComplete (F_X5_in day (f 7 k) (f 8 k) = 0) with e3 | e3 <;> rcases Classical.propComplete (on = 0) with e4 | e4 <;> rcases Classical.propComplete (((x5 >>> ((f 4 k) &&& 31)) &&& 1) = 1) with e5 | e5 <;> simp only [e0, e1, e2, e3, e4, e5, if_true, if_false, true_and, false_and, and_true, and_false, true_or, false_or, or_true, or_false, not_true_eq_false, not_false_eq_true]
theorem has_L {z : Nat → Nat} {v : Nat → Int32} {f : Nat → Nat → Int32} {t a pl day x5 : Int32} : ∀ (n : Nat) (on : Int32) (k : Nat), z 1 < k + n → ((¬ F_X5_has_L15 z v f t a pl day x5 n on k = 0) ↔ ¬ on = 0 ∨ ∃ j, k ≤ j ∧ j < z 1 ∧ f 5 j = a ∧ (f 6 j = -1 ∨ f 6 j = pl) ∧ ¬ F_X5_in day (f 7 j) (f 8 j) = 0 ∧ ((x5 >>> ((f 4 j) &&& 31)) &&& 1) = 1) := by
  intro n
  induction n with
  | zero =>
    intro on k h
    rw [F_X5_has_L15]
    exact ⟨Or.inl, fun h => h.elim id (fun ⟨j, a, b, _⟩ => absurd b (by omega))⟩
  | succ n ih =>
    intro on k h
    rw [has_step]
    by_cases c : z 1 ≤ k
    · rw [if_pos c]
      exact ⟨Or.inl, fun h => h.elim id (fun ⟨j, a, b, _⟩ => absurd b (by omega))⟩
    · rw [if_neg c, ih _ _ (by omega)]
      by_cases q : on = 0
      · rw [if_pos q]
        by_cases p : f 5 k = a ∧ (f 6 k = -1 ∨ f 6 k = pl) ∧ ¬ F_X5_in day (f 7 k) (f 8 k) = 0 ∧ ((x5 >>> ((f 4 k) &&& 31)) &&& 1) = 1
        · rw [if_pos p]
          exact ⟨fun _ => Or.inr ⟨k, Nat.le_refl _, by omega, p⟩, fun _ => Or.inl (by decide)⟩
        · rw [if_neg p]
          constructor
          · rintro (a | ⟨j, a, b⟩)
            · exact absurd rfl a
            · exact Or.inr ⟨j, by omega, b⟩
          · rintro (a | ⟨j, a, b, d⟩)
            · exact absurd q a
            · by_cases e : j = k
              · subst e; exact absurd d p
              · exact Or.inr ⟨j, by omega, b, d⟩
      · rw [if_neg q]
        exact ⟨fun _ => Or.inl q, fun _ => Or.inl (by decide)⟩
theorem has_iff {z : Nat → Nat} {v : Nat → Int32} {f : Nat → Nat → Int32} {t a pl day : Int32} : (¬ F_X5_has z v f t a pl day = 0) ↔ (∃ j, j < z 1 ∧ f 5 j = a ∧ (f 6 j = -1 ∨ f 6 j = pl) ∧ ¬ F_X5_in day (f 7 j) (f 8 j) = 0 ∧ (((F_X5_reached z v f t day) >>> ((f 4 j) &&& 31)) &&& 1) = 1) ∧ F_X5_isForbidden z v f t a = 0 := by
  rw [F_X5_has]
  have h := has_L (z := z) (v := v) (f := f) (t := t) (a := a) (pl := pl) (day := day) (x5 := F_X5_reached z v f t day) (z 1 + 1) 0 0 (by omega)
  by_cases c : F_X5_has_L15 z v f t a pl day (F_X5_reached z v f t day) (z 1 + 1) 0 0 = 0
  · rw [if_pos c]
    exact ⟨fun a => absurd rfl a, fun ⟨⟨j, h1⟩, _⟩ => absurd c (h.mpr (Or.inr ⟨j, Nat.zero_le _, h1⟩))⟩
  · rw [if_neg c]
    have h2 : ∃ j, j < z 1 ∧ f 5 j = a ∧ (f 6 j = -1 ∨ f 6 j = pl) ∧ ¬ F_X5_in day (f 7 j) (f 8 j) = 0 ∧ (((F_X5_reached z v f t day) >>> ((f 4 j) &&& 31)) &&& 1) = 1 := by
      rcases h.mp c with a | ⟨j, _, a⟩
      · exact absurd rfl a
      · exact ⟨j, a⟩
    by_cases d : F_X5_isForbidden z v f t a = 0
    · rw [if_pos d]; exact ⟨fun _ => ⟨h2, d⟩, fun _ => by decide⟩
    · rw [if_neg d]; exact ⟨fun a => absurd rfl a, fun a => absurd a.2 d⟩
theorem day_eq {z : Nat → Nat} {vx : Nat → Int32} {fx fm : Nat → Nat → Int32} (hF : rF fx fm) {j : Nat} (hj : j < 60) (day : Int32) : F_X2_isOnDay z vx fx (nI j) day = F_X5_in day (fm 7 j) (fm 8 j) := by
  rw [F_X2_isOnDay, F_X5_in, nI_clamp (show j < 2 ^ 31 by omega), hF.2.1.2.2.2.1, hF.2.1.2.2.2.2]
theorem forb_eq {z : Nat → Nat} {vx vm : Nat → Int32} {fx fm : Nat → Nat → Int32} (hF : rF fx fm) (t a : Int32) : F_X4_isForbidden z vx fx t a = F_X5_isForbidden z vm fm t a := by
  rw [F_X4_isForbidden, F_X5_isForbidden, holds_eq, hF.1.2]
/-- the class's owners are those for whom the reference's has is true -/
theorem own_has {z : Nat → Nat} {vx vm : Nat → Int32} {fx fm : Nat → Nat → Int32} {a pl day : Int32} (h : REL z vx fx z vm fm) (hd : ¬ day < 0) (i : Nat) : bt (F_X4_ownersOf z vx fx a pl day (F_X4_aliveOn z vx fx day)) i = true ↔ i < z 0 ∧ ¬ F_X5_has z vm fm (nI i) a pl day = 0 := by
  obtain ⟨-, ⟨m0, m1, m2, m3, m4, m5, m6, m7, m8⟩, -, hv, hF, hT, hD, hG, hB, hR, hM, hL⟩ := h
  have f0 : fx 0 = fm 0 := hF.1.1
  have hGx : rG (z 0) (fx 0) := by rw [f0]; exact hG
  have hal := hal_day (vx := vx) (vm := vm) (day := day) m0 hF hT hd
  obtain ⟨p5, p6, p7, -, -⟩ := hF.2.1
  rw [ow_bt, has_iff]
  have key : ∀ j, j < z 0 → ((¬ (((F_X4_bit (nI j)) ||| (F_X4_groupsAmong z vx fx (nI j) (F_X4_aliveOn z vx fx day))) &&& (F_X2_tradersWith z vx fx a pl day)) = 0) ↔ ∃ q, q < z 1 ∧ fm 5 q = a ∧ (fm 6 q = -1 ∨ fm 6 q = pl) ∧ ¬ F_X5_in day (fm 7 q) (fm 8 q) = 0 ∧ (((F_X5_reached z vm fm (nI j) day) >>> ((fm 4 q) &&& 31)) &&& 1) = 1) := by
    intro j hj
    rw [zero_bt]
    constructor
    · intro hn
      obtain ⟨c, hc⟩ := Classical.not_forall.mp hn
      have hc := Classical.not_not.mp hc
      rw [ba, bo, b_bit (by omega), ← reach_eq (v := vx) (f := fx) m0 hGx f0 hal hj, tw_bt] at hc
      obtain ⟨hc1, q, hq, ⟨t1, t2, t3⟩, t4⟩ := hc
      obtain ⟨⟨c', hc', e⟩, -⟩ := hR q hq
      rw [p5, e, b_bit (by omega)] at t4
      rw [p7] at t1
      rw [p6] at t2
      rw [day_eq hF (by omega)] at t3
      refine ⟨q, hq, t2, t1, t3, ?_⟩
      rw [e, tst_bt (by omega), ← t4]
      exact hc1
    · rintro ⟨q, hq, t2, t1, t3, t4⟩ hn
      obtain ⟨⟨c', hc', e⟩, -⟩ := hR q hq
      rw [e, tst_bt (by omega)] at t4
      refine hn c' ?_
      rw [ba, bo, b_bit (by omega), ← reach_eq (v := vx) (f := fx) m0 hGx f0 hal hj, tw_bt]
      refine ⟨t4, q, hq, ⟨?_, ?_, ?_⟩, ?_⟩
      · rw [p7]; exact t1
      · rw [p6]; exact t2
      · rw [day_eq hF (by omega)]; exact t3
      · rw [p5, e, b_bit (by omega)]
  constructor
  · rintro ⟨j, hj, ⟨h1, h2⟩, h3⟩
    have e := (b_bit (by omega) i).mp h3
    subst e
    rw [forb_eq (vm := vm) hF] at h1
    exact ⟨hj, (key i hj).mp h2, h1⟩
  · rintro ⟨hi, h1, h2⟩
    rw [← forb_eq (vx := vx) hF] at h2
    exact ⟨i, hi, ⟨h2, (key i hi).mpr h1⟩, (b_bit (by omega) i).mpr rfl⟩
