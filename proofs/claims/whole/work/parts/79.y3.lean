theorem and1 (x : Int32) : x &&& 1 = 0 ∨ x &&& 1 = 1 := by
  have h := pk_and x (m := 1) 1 (by decide)
  rw [h]
  rcases (show x.toBitVec.toNat % 2 ^ 1 = 0 ∨ x.toBitVec.toNat % 2 ^ 1 = 1 by omega) with e | e <;> rw [e]
  · exact Or.inl (by decide)
  · exact Or.inr (by decide)
theorem zB_cases {b : Int32} (h : zB b) : b = 0 ∨ b = 1 := by
  have h2 : narrow .boolean (.int b) = .int b := h
  have h3 : b &&& 1 = b := Value.int.inj h2
  rw [← h3]
  exact and1 b
theorem holds_eq (a b : Int32) : F_X4_holds a b = if ((a >>> (b &&& 31)) &&& 1) = 1 then 1 else 0 := by
  rw [F_X4_holds]
  rcases and1 (a >>> (b &&& 31)) with e | e <;> rw [e] <;> decide
theorem mk_set : ∀ n, n < 256 → ∀ a, a < 8 → ((nI n >>> (nI a &&& 31)) &&& 1) = 1 → (nI n ^^^ F_X4_bit (nI a)) = nI n + (-(1 <<< (nI a &&& 31))) ∧ (nI n ^^^ F_X4_bit (nI a)).toBitVec.toNat < 256 := by decide +kernel
theorem mk_clr : ∀ n, n < 256 → ∀ a, a < 8 → ¬ ((nI n >>> (nI a &&& 31)) &&& 1) = 1 → (nI n ^^^ F_X4_bit (nI a)) = nI n + (1 <<< (nI a &&& 31)) ∧ (nI n ^^^ F_X4_bit (nI a)).toBitVec.toNat < 256 := by decide +kernel
theorem nI_tn (x : Int32) : x = nI x.toBitVec.toNat := by
  apply Int32.toBitVec_inj.mp
  show x.toBitVec = (Int32.ofNat _).toBitVec
  simp
theorem mk_256 {x : Int32} (h : x.toBitVec.toNat < 256) : ∃ n, n < 256 ∧ x = nI n := ⟨_, h, nI_tn x⟩
theorem rB.put {B : Nat → Int32} {w x : Int32} (h : rB B w) (i : Nat) (hx : ∃ n, n < 256 ∧ x = nI n) : rB (upd B i x) w := ⟨fun k => by
  by_cases e : k = i
  · subst e; rw [upds]; exact hx
  · rw [updn e]; exact h.1 k, h.2⟩
theorem pu_forbid {zx zm : Nat → Nat} {vx vm : Nat → Int32} {fx fm : Nat → Nat → Int32} (h : REL zx vx fx zm vm fm) (t a b : Int32) (hb : zB b) : (F_X4_forbid zx vx fx t a b).1 = (F_X5_forbid zm vm fm t a b).1 ∧ REL (F_X4_forbid zx vx fx t a b).2.1 (F_X4_forbid zx vx fx t a b).2.2.1 (F_X4_forbid zx vx fx t a b).2.2.2 (F_X5_forbid zm vm fm t a b).2.2.1 (F_X5_forbid zm vm fm t a b).2.2.2.1 (F_X5_forbid zm vm fm t a b).2.2.2.2 := by
  obtain ⟨⟨x0, x1, x2, x3, x4, x5, x6⟩, ⟨m0, m1, m2, m3, m4, m5, m6, m7, m8⟩, rfl, hv, ⟨⟨f0, f1⟩, f2⟩, hT, hD, hG, hB, hR, hM, hL⟩ := id h
  rw [F_X4_forbid, F_X5_forbid]
  simp only [eqTr zx vx vm fx fm, eqAct]
  by_cases c1 : F_X5_isTrader zx vm fm t = 0
  · rw [if_pos c1, if_pos c1]; exact ⟨rfl, h⟩
  rw [if_neg c1, if_neg c1]
  by_cases c2 : F_X5_isEight a = 0
  · rw [if_pos c2, if_pos c2]; exact ⟨rfl, h⟩
  rw [if_neg c2, if_neg c2]
  have e1 : F_X4_isForbidden zx vx fx t a = F_X5_isForbidden zx vm fm t a := by
    rw [F_X4_isForbidden, F_X5_isForbidden, holds_eq, f1]
  rw [e1]
  by_cases c3 : F_X5_isForbidden zx vm fm t a = b
  · rw [if_pos c3, if_pos c3]; exact ⟨rfl, h⟩
  rw [if_neg c3, if_neg c3]
  obtain ⟨i, hi, rfl⟩ := isT_nat m0 c1
  obtain ⟨c, hc, rfl⟩ := is8_nat c2
  rw [nI_clamp (show i < 2 ^ 31 by omega)]
  rw [F_X5_isForbidden, nI_clamp (show i < 2 ^ 31 by omega)] at c3
  obtain ⟨n, hn, en⟩ := hB.1 i
  have e2 : fx 1 i = nI n := by rw [f1, en]
  rw [en] at c3
  rw [e2, en]
  rcases zB_cases hb with rfl | rfl
  · rw [if_pos rfl]
    by_cases c4 : ((nI n >>> (nI c &&& 31)) &&& 1) = 1
    · obtain ⟨g1, g2⟩ := mk_set n hn c hc c4
      refine ⟨rfl, ⟨x0, x1, x2, x3, x4, x5, x6⟩, ⟨m0, m1, m2, m3, m4, m5, m6, m7, m8⟩, rfl, hv, ⟨⟨f0, ?_⟩, f2⟩, hT, hD, hG, ?_, hR, hM, hL⟩
      · show upd (fx 1) i _ = upd (fm 1) i _
        rw [f1, g1]
      · show rB (upd (fm 1) i _) (vm 1)
        rw [← g1]; exact hB.put i (mk_256 g2)
    · rw [if_neg c4] at c3; exact absurd rfl c3
  · rw [if_neg (by decide)]
    by_cases c4 : ((nI n >>> (nI c &&& 31)) &&& 1) = 1
    · rw [if_pos c4] at c3; exact absurd rfl c3
    · obtain ⟨g1, g2⟩ := mk_clr n hn c hc c4
      refine ⟨rfl, ⟨x0, x1, x2, x3, x4, x5, x6⟩, ⟨m0, m1, m2, m3, m4, m5, m6, m7, m8⟩, rfl, hv, ⟨⟨f0, ?_⟩, f2⟩, hT, hD, hG, ?_, hR, hM, hL⟩
      · show upd (fx 1) i _ = upd (fm 1) i _
        rw [f1, g1]
      · show rB (upd (fm 1) i _) (vm 1)
        rw [← g1]; exact hB.put i (mk_256 g2)
theorem pu_two {zx zm : Nat → Nat} {vx vm : Nat → Int32} {fx fm : Nat → Nat → Int32} (h : REL zx vx fx zm vm fm) (a b : Int32) (hb : zB b) : (F_X4_two zx vx fx a b).1 = (F_X5_two zm vm fm a b).1 ∧ REL (F_X4_two zx vx fx a b).2.1 (F_X4_two zx vx fx a b).2.2.1 (F_X4_two zx vx fx a b).2.2.2 (F_X5_two zm vm fm a b).2.2.1 (F_X5_two zm vm fm a b).2.2.2.1 (F_X5_two zm vm fm a b).2.2.2.2 := by
  obtain ⟨hx, hm, rfl, ⟨v0, v1⟩, hF, hT, hD, hG, hB, hRest⟩ := id h
  rw [F_X4_two, F_X5_two]
  simp only [eqAct]
  by_cases c2 : F_X5_isEight a = 0
  · rw [if_pos c2, if_pos c2]; exact ⟨rfl, h⟩
  rw [if_neg c2, if_neg c2]
  obtain ⟨c, hc, rfl⟩ := is8_nat c2
  obtain ⟨n, hn, en⟩ := hB.2
  have e2 : vx 0 = nI n := by rw [v0, en]
  rw [F_X4_needsTwo, holds_eq, e2, en]
  by_cases c4 : ((nI n >>> (nI c &&& 31)) &&& 1) = 1
  · rw [if_pos c4, if_pos c4]
    obtain ⟨g1, g2⟩ := mk_set n hn c hc c4
    rcases zB_cases hb with rfl | rfl
    · rw [if_neg (by decide), if_neg (by decide), if_pos rfl]
      refine ⟨rfl, hx, hm, rfl, ⟨?_, v1⟩, hF, hT, hD, hG, ⟨hB.1, ?_⟩, hRest⟩
      · exact g1
      · show ∃ m, m < 256 ∧ nI n + _ = nI m
        rw [← g1]; exact mk_256 g2
    · rw [if_pos rfl, if_pos rfl]; exact ⟨rfl, h⟩
  · rw [if_neg c4, if_neg c4]
    obtain ⟨g1, g2⟩ := mk_clr n hn c hc c4
    rcases zB_cases hb with rfl | rfl
    · rw [if_pos rfl, if_pos rfl]; exact ⟨rfl, h⟩
    · rw [if_neg (by decide), if_neg (by decide), if_neg (by decide)]
      refine ⟨rfl, hx, hm, rfl, ⟨?_, v1⟩, hF, hT, hD, hG, ⟨hB.1, ?_⟩, hRest⟩
      · exact g1
      · show ∃ m, m < 256 ∧ nI n + _ = nI m
        rw [← g1]; exact mk_256 g2
theorem wd_none {z : Nat → Nat} {v : Nat → Int32} {f : Nat → Nat → Int32} {t : Int32} : ∀ (n : Nat) (fo : Int32) (k : Nat), (∀ d, k ≤ d → d < z 0 → ¬ f 2 d = t) → F_X5_withDeputy_L4 z v f t n fo k = fo := by
  intro n
  induction n with
  | zero => intro fo k _; rw [F_X5_withDeputy_L4]
  | succ n ih =>
    intro fo k h
    rw [F_X5_withDeputy_L4]
    by_cases c : z 0 ≤ k
    · rw [if_pos c]
    · rw [if_neg c, if_neg (h k (Nat.le_refl _) (by omega))]
      exact ih fo (k + 1) (fun d h1 h2 => h d (by omega) h2)
theorem wd_some {z : Nat → Nat} {v : Nat → Int32} {f : Nat → Nat → Int32} {t : Int32} {d : Nat} (hd : d < z 0) (he : f 2 d = t) (hu : ∀ e, e < z 0 → f 2 e = t → e = d) : ∀ (n : Nat) (fo : Int32) (k : Nat), k ≤ d → z 0 < k + n → F_X5_withDeputy_L4 z v f t n fo k = nI d := by
  intro n
  induction n with
  | zero => intro fo k h1 h2; exact absurd h2 (by omega)
  | succ n ih =>
    intro fo k h1 h2
    rw [F_X5_withDeputy_L4, if_neg (show ¬ z 0 ≤ k by omega)]
    by_cases c : f 2 k = t
    · have e := hu k (by omega) c
      subst e
      rw [if_pos c]
      exact wd_none n (nI k) (k + 1) (fun d h3 h4 h5 => by have := hu d h4 h5; omega)
    · rw [if_neg c]
      exact ih fo (k + 1) (by have : k ≠ d := fun e => c (by rw [e]; exact he); omega) (by omega)
theorem nI_inj12 {a b : Nat} (ha : a < 12) (hb : b < 12) (h : nI a = nI b) : a = b := (nI_eq (by omega) (by omega)).mp h
theorem nI_m1 {a : Nat} (ha : a < 12) : ¬ nI a = -1 := by
  intro h
  have h1 := congrArg Int32.toInt h
  rw [nI_toInt (by omega)] at h1
  have e : (-1 : Int32).toInt = -1 := rfl
  omega
theorem nI_nn {a : Nat} (ha : a < 12) : 0 ≤ nI a := nI_pos' (by omega)
theorem wd_eq {z : Nat → Nat} {v : Nat → Int32} {f : Nat → Nat → Int32} {dx : Nat → Int32} (hz : z 0 ≤ 12) (h : rD (z 0) dx (f 2)) {i : Nat} (hi : i < z 0) : F_X5_withDeputy z v f (nI i) = dx i := by
  rw [F_X5_withDeputy]
  rcases h.1 i hi with e | ⟨d, hd, e1, e2⟩
  · rw [e]
    refine wd_none _ _ _ (fun d _ hd he => ?_)
    rcases h.2 d hd with a | ⟨k, hk, a1, a2⟩
    · exact nI_m1 (by omega) (he.symm.trans a)
    · have := nI_inj12 (by omega) (by omega) (a1.symm.trans he)
      subst this
      exact nI_m1 (show d < 12 by omega) (a2.symm.trans e)
  · rw [e1]
    refine wd_some hd e2 (fun e he h2 => ?_) _ _ _ (Nat.zero_le _) (by omega)
    rcases h.2 e he with a | ⟨k, hk, a1, a2⟩
    · exact absurd (h2.symm.trans a) (nI_m1 (by omega))
    · have := nI_inj12 (by omega) (by omega) (a1.symm.trans h2)
      subst this
      exact nI_inj12 (by omega) (by omega) (a2.symm.trans e1)
theorem m1_neg : ¬ (0 : Int32) ≤ -1 := by decide
theorem pu_deputy {zx zm : Nat → Nat} {vx vm : Nat → Int32} {fx fm : Nat → Nat → Int32} (h : REL zx vx fx zm vm fm) (t u : Int32) : (F_X5_deputy zm vm fm t u).2.1 = hc_deputy (F_X4_deputy zx vx fx t u).1 ∧ ((F_X4_deputy zx vx fx t u).1 = 0 → (F_X4_deputy zx vx fx t u).2.1 = (F_X5_deputy zm vm fm t u).1) ∧ REL (F_X4_deputy zx vx fx t u).2.2.1 (F_X4_deputy zx vx fx t u).2.2.2.1 (F_X4_deputy zx vx fx t u).2.2.2.2 (F_X5_deputy zm vm fm t u).2.2.1 (F_X5_deputy zm vm fm t u).2.2.2.1 (F_X5_deputy zm vm fm t u).2.2.2.2 := by
  obtain ⟨⟨x0, x1, x2, x3, x4, x5, x6⟩, ⟨m0, m1, m2, m3, m4, m5, m6, m7, m8⟩, rfl, hv, hF, hT, hD, hG, hB, hR, hM, hL⟩ := id h
  rw [F_X4_deputy, F_X5_deputy]
  simp only [eqTwo zx vx vm fx fm]
  by_cases c1 : F_X5_areTwo zx vm fm t u = 0
  · rw [if_pos c1, if_pos c1]; exact ⟨rfl, fun h9 => by simp at h9, h⟩
  rw [if_neg c1, if_neg c1]
  obtain ⟨i, j, hi, hj, hij, rfl, rfl⟩ := two_nat m0 c1
  rw [wd_eq m0 hD hi, wd_eq m0 hD hj, F_X4_isInDeputyPair, F_X4_isInDeputyPair, nI_clamp (show i < 2 ^ 31 by omega), nI_clamp (show j < 2 ^ 31 by omega)]
  obtain ⟨ai, -, -⟩ := hT.1 i hi
  obtain ⟨aj, -, -⟩ := hT.1 j hj
  rw [ai, aj]
  have q2 : ∀ k, k < zx 0 → fx 2 k = -1 ∨ (0 ≤ fx 2 k ∧ ¬ fx 2 k = -1) := fun k hk => by
    rcases hD.1 k hk with e | ⟨d, hd, e1, -⟩
    · exact Or.inl e
    · rw [e1]; exact Or.inr ⟨nI_nn (by omega), nI_m1 (by omega)⟩
  have q3 : ∀ k, k < zx 0 → fm 2 k = -1 ∨ (0 ≤ fm 2 k ∧ ¬ fm 2 k = -1) := fun k hk => by
    rcases hD.2 k hk with e | ⟨d, hd, e1, -⟩
    · exact Or.inl e
    · rw [e1]; exact Or.inr ⟨nI_nn (by omega), nI_m1 (by omega)⟩
  rcases q3 i hi with b1 | ⟨b1, b1'⟩
  · rcases q3 j hj with b2 | ⟨b2, b2'⟩
    · rcases q2 i hi with b3 | ⟨b3, b3'⟩
      · rcases q2 j hj with b4 | ⟨b4, b4'⟩
        · rw [if_pos b3, if_pos b1, if_pos rfl, if_pos b4, if_pos b2, if_pos rfl, if_neg (by rw [b1]; exact m1_neg), if_neg (by rw [b2]; exact m1_neg), if_neg (by rw [b3]; exact m1_neg), if_pos (by rw [b4]; decide)]
          refine ⟨rfl, fun _ => rfl, ⟨x0, x1, x2, x3, x4, x5, x6⟩, ⟨m0, m1, m2, m3, m4, m5, m6, ?_, m8⟩, rfl, hv, hF, ⟨fun k hk => ?_, fun k h1 h2 => ?_⟩, ⟨fun k hk => ?_, fun k hk => ?_⟩, hG, hB, hR, hM, hL⟩
          · intro k hk
            show upd (fm 2) j (nI i) k < 0 ∨ vp_in (upd (fm 2) j (nI i) k) 12
            by_cases e : k = j
            · subst e; rw [upds]; exact Or.inr (vp_in_nI (by omega) (by omega))
            · rw [updn e]; exact m7 k hk
          · show upd (fx 3) j (nI i) k = upd (fm 2) j (nI i) k ∧ fx 4 k = fm 3 k ∧ (fm 3 k = -1 ∨ ¬ fm 3 k < 0)
            obtain ⟨g1, g2⟩ := hT.1 k hk
            by_cases e : k = j
            · subst e; rw [upds, upds]; exact ⟨rfl, g2⟩
            · rw [updn e, updn e]; exact ⟨g1, g2⟩
          · show upd (fx 2) i (nI j) k = -1 ∧ upd (fx 3) j (nI i) k = -1 ∧ fx 4 k = -1
            have h2 : zx 0 ≤ k := h2
            rw [updn (by omega), updn (by omega)]
            exact hT.2 k h1 h2
          · show upd (fx 2) i (nI j) k = -1 ∨ ∃ d, d < zx 0 ∧ upd (fx 2) i (nI j) k = nI d ∧ upd (fm 2) j (nI i) d = nI k
            have hk : k < zx 0 := hk
            by_cases e : k = i
            · subst e; rw [upds]; exact Or.inr ⟨j, hj, rfl, upds⟩
            · rw [updn e]
              rcases hD.1 k hk with a | ⟨d, hd, a1, a2⟩
              · exact Or.inl a
              · refine Or.inr ⟨d, hd, a1, ?_⟩
                rw [updn (show d ≠ j from fun e2 => ?_)]
                · exact a2
                · subst e2; exact nI_m1 (show k < 12 by omega) (a2.symm.trans b2)
          · show upd (fm 2) j (nI i) k = -1 ∨ ∃ d, d < zx 0 ∧ upd (fm 2) j (nI i) k = nI d ∧ upd (fx 2) i (nI j) d = nI k
            have hk : k < zx 0 := hk
            by_cases e : k = j
            · subst e; rw [upds]; exact Or.inr ⟨i, hi, rfl, upds⟩
            · rw [updn e]
              rcases hD.2 k hk with a | ⟨d, hd, a1, a2⟩
              · exact Or.inl a
              · refine Or.inr ⟨d, hd, a1, ?_⟩
                rw [updn (show d ≠ i from fun e2 => ?_)]
                · exact a2
                · subst e2; exact nI_m1 (show k < 12 by omega) (a2.symm.trans b3)
        · rw [if_pos b3, if_pos b1, if_pos (show (0 : Int32) = 0 from rfl), if_neg b4', if_neg (show ¬ (1 : Int32) = 0 by decide), if_neg (show ¬ 0 ≤ fm 2 i by rw [b1]; exact m1_neg), if_neg (show ¬ 0 ≤ fm 2 j by rw [b2]; exact m1_neg), if_neg (show ¬ 0 ≤ fx 2 i by rw [b3]; exact m1_neg), if_neg (nlt_le.mpr b4)]
          exact ⟨rfl, fun _ => rfl, h⟩
      · rw [if_neg b3', if_neg (show ¬ (1 : Int32) = 0 by decide), if_neg (show ¬ 0 ≤ fm 2 i by rw [b1]; exact m1_neg), if_neg (show ¬ 0 ≤ fm 2 j by rw [b2]; exact m1_neg), if_pos b3]
        exact ⟨rfl, fun _ => rfl, h⟩
    · rcases q2 i hi with b3 | ⟨b3, b3'⟩
      · have e9 : (if fx 2 j = -1 then (if fm 2 j = -1 then (0 : Int32) else 1) else 1) = 1 := by
          by_cases c : fx 2 j = -1
          · rw [if_pos c, if_neg b2']
          · rw [if_neg c]
        rw [if_pos b3, if_pos b1, if_pos (show (0 : Int32) = 0 from rfl), e9, if_neg (show ¬ (1 : Int32) = 0 by decide), if_neg (show ¬ 0 ≤ fm 2 i by rw [b1]; exact m1_neg), if_pos b2]
        exact ⟨rfl, fun _ => rfl, h⟩
      · rw [if_neg b3', if_neg (show ¬ (1 : Int32) = 0 by decide), if_neg (show ¬ 0 ≤ fm 2 i by rw [b1]; exact m1_neg), if_pos b2]
        exact ⟨rfl, fun _ => rfl, h⟩
  · have e9 : (if fx 2 i = -1 then (if fm 2 i = -1 then (0 : Int32) else 1) else 1) = 1 := by
      by_cases c : fx 2 i = -1
      · rw [if_pos c, if_neg b1']
      · rw [if_neg c]
    rw [e9, if_neg (show ¬ (1 : Int32) = 0 by decide), if_pos b1]
    exact ⟨rfl, fun _ => rfl, h⟩
