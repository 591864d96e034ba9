/-! the reference's reached -/
def alM (z : Nat → Nat) (w : Nat → Int32) (g : Nat → Nat → Int32) (day : Int32) (i : Nat) : Prop := day = -1 ∨ ¬ F_X5_isAlive z w g (nI i) day = 0
theorem r29 {z : Nat → Nat} {w : Nat → Int32} {f : Nat → Nat → Int32} {t day al bl : Int32} {ro k : Nat} (hz : z 0 ≤ 12) (hk : k < z 0) (i : Nat) : ∀ (n : Nat) (dl : Int32) (g : Nat), z 0 < g + n → (bt (F_X5_reached_L29 z w f t day al ro bl k n dl g) i = true ↔ bt dl i = true ∨ (bt dl k = true ∧ g ≤ i ∧ i < z 0 ∧ bt (f 0 k) i = true ∧ alM z w f day i)) := by
  intro n
  induction n with
  | zero =>
    intro dl g h
    rw [F_X5_reached_L29]
    exact ⟨Or.inl, fun a => a.elim id (fun ⟨_, h1, h2, _⟩ => absurd h2 (by omega))⟩
  | succ n ih =>
    intro dl g h
    rw [F_X5_reached_L29]
    by_cases c : z 0 ≤ g
    · rw [if_pos c]
      exact ⟨Or.inl, fun a => a.elim id (fun ⟨_, h1, h2, _⟩ => absurd h2 (by omega))⟩
    · rw [if_neg c]
      by_cases d : ((dl >>> ((nI k) &&& 31)) &&& 1) = 1
      · rw [if_pos d]
        rw [tst_bt (by omega)] at d
        have skip : (¬ (bt (f 0 k) g = true ∧ alM z w f day g)) → (bt (F_X5_reached_L29 z w f t day al ro bl k n dl (g + 1)) i = true ↔ bt dl i = true ∨ (bt dl k = true ∧ g ≤ i ∧ i < z 0 ∧ bt (f 0 k) i = true ∧ alM z w f day i)) := by
          intro hn
          rw [ih dl (g + 1) (by omega)]
          constructor
          · rintro (a | ⟨h1, h2, h3⟩)
            · exact Or.inl a
            · exact Or.inr ⟨h1, by omega, h3⟩
          · rintro (a | ⟨h1, h2, h3, h4, h5⟩)
            · exact Or.inl a
            · by_cases e : i = g
              · subst e; exact absurd ⟨h4, h5⟩ hn
              · exact Or.inr ⟨h1, by omega, h3, h4, h5⟩
        have take : (bt (f 0 k) g = true ∧ alM z w f day g) → (bt (F_X5_reached_L29 z w f t day al ro bl k n (dl ||| (1 <<< ((nI g) &&& 31))) (g + 1)) i = true ↔ bt dl i = true ∨ (bt dl k = true ∧ g ≤ i ∧ i < z 0 ∧ bt (f 0 k) i = true ∧ alM z w f day i)) := by
          intro hy
          rw [ih _ (g + 1) (by omega), bo, bo, b_one (by omega)]
          constructor
          · rintro ((a | a) | ⟨h1, h2, h3⟩)
            · exact Or.inl a
            · rw [a]; exact Or.inr ⟨d, Nat.le_refl _, by omega, hy⟩
            · exact Or.inr ⟨d, by omega, h3⟩
          · rintro (a | ⟨h1, h2, h3, h4, h5⟩)
            · exact Or.inl (Or.inl a)
            · by_cases e : i = g
              · exact Or.inl (Or.inr e)
              · exact Or.inr ⟨Or.inl h1, by omega, h3, h4, h5⟩
        by_cases c2 : (((f 0 k) >>> ((nI g) &&& 31)) &&& 1) = 1
        · rw [if_pos c2]
          rw [tst_bt (by omega)] at c2
          by_cases c3 : day = -1
          · rw [if_pos c3]; exact take ⟨c2, Or.inl c3⟩
          · rw [if_neg c3]
            by_cases c4 : F_X5_isAlive z w f (nI g) day = 0
            · rw [if_pos c4]; exact skip (fun a => a.2.elim c3 (fun b => b c4))
            · rw [if_neg c4]; exact take ⟨c2, Or.inr c4⟩
        · rw [if_neg c2]
          rw [tst_bt (by omega)] at c2
          exact skip (fun a => c2 a.1)
      · rw [if_neg d]
        rw [tst_bt (by omega)] at d
        exact ⟨Or.inl, fun a => a.elim id (fun ⟨h1, _⟩ => absurd h1 d)⟩
theorem r17a {z : Nat → Nat} {w : Nat → Int32} {f : Nat → Nat → Int32} {t day al : Int32} {ro : Nat} (hz : z 0 ≤ 12) : ∀ (n : Nat) (bl : Int32) (k : Nat), z 0 < k + n → (∀ i, bt bl i = true → bt (F_X5_reached_L17 z w f t day al ro n bl k) i = true) ∧ (∀ j i, k ≤ j → j < z 0 → bt bl j = true → i < z 0 → bt (f 0 j) i = true → alM z w f day i → bt (F_X5_reached_L17 z w f t day al ro n bl k) i = true) := by
  intro n
  induction n with
  | zero =>
    intro bl k h
    rw [F_X5_reached_L17]
    exact ⟨fun i h => h, fun j i h1 h2 => absurd h2 (by omega)⟩
  | succ n ih =>
    intro bl k h
    rw [F_X5_reached_L17]
    by_cases c : z 0 ≤ k
    · rw [if_pos c]
      exact ⟨fun i h => h, fun j i h1 h2 => absurd h2 (by omega)⟩
    · rw [if_neg c]
      obtain ⟨i1, i2⟩ := ih (F_X5_reached_L29 z w f t day al ro bl k (z 0 + 1) bl 0) (k + 1) (by omega)
      have q : ∀ i, bt bl i = true → bt (F_X5_reached_L29 z w f t day al ro bl k (z 0 + 1) bl 0) i = true := fun i hi => (r29 hz (by omega) i _ _ _ (by omega)).mpr (Or.inl hi)
      refine ⟨fun i hi => i1 i (q i hi), fun j i h1 h2 h3 h4 h5 h6 => ?_⟩
      by_cases e : j = k
      · subst e
        exact i1 i ((r29 hz h2 i _ _ _ (by omega)).mpr (Or.inr ⟨h3, Nat.zero_le _, h4, h5, h6⟩))
      · exact i2 j i (by omega) h2 (q j h3) h4 h5 h6
theorem r17b {z : Nat → Nat} {w : Nat → Int32} {f : Nat → Nat → Int32} {t day al : Int32} {ro : Nat} (hz : z 0 ≤ 12) {C : Nat → Prop} (hC : clo (z 0) (f 0) (fun i => i < z 0 ∧ alM z w f day i) C) : ∀ (n : Nat) (bl : Int32) (k : Nat), (∀ i, bt bl i = true → C i) → ∀ i, bt (F_X5_reached_L17 z w f t day al ro n bl k) i = true → C i := by
  intro n
  induction n with
  | zero =>
    intro bl k h
    rw [F_X5_reached_L17]
    exact h
  | succ n ih =>
    intro bl k h
    rw [F_X5_reached_L17]
    by_cases c : z 0 ≤ k
    · rw [if_pos c]
      exact h
    · rw [if_neg c]
      refine ih _ _ (fun i hi => ?_)
      rcases (r29 hz (by omega) i _ _ _ (by omega)).mp hi with a | ⟨h1, h2, h3, h4, h5⟩
      · exact h i a
      · exact hC k i (by omega) (h k h1) h4 ⟨h3, h5⟩
theorem r7a {z : Nat → Nat} {v w : Nat → Int32} {f g : Nat → Nat → Int32} {x day aw : Int32} {t : Nat} (hz : z 0 ≤ 12) (hG : rG (z 0) (f 0)) (hfg : f 0 = g 0) (hal : ∀ i, i < z 0 → (bt aw i = true ↔ alM z w g day i)) : ∀ (n : Nat) (al : Int32) (ro j : Nat), 12 < ro + n → ro ≤ 12 → (∀ i, bt (wS z v f aw t j) i = true → bt al i = true) → ∀ i, bt (wS z v f aw t (j + (12 - ro))) i = true → bt (F_X5_reached_L7 z w g x day n al ro) i = true := by
  intro n
  induction n with
  | zero => intro al ro j h1 h2; exact absurd h1 (by omega)
  | succ n ih =>
    intro al ro j h1 h2 h
    rw [F_X5_reached_L7]
    by_cases c : 12 ≤ ro
    · rw [if_pos c, show ro = 12 by omega]
      exact h
    · rw [if_neg c, show j + (12 - ro) = (j + 1) + (12 - (ro + 1)) by omega]
      refine ih _ (ro + 1) (j + 1) (by omega) (by omega) (fun i hi => ?_)
      obtain ⟨q1, q2⟩ := r17a (w := w) (f := g) (t := x) (day := day) (al := al) (ro := ro) hz (z 0 + 1) al 0 (by omega)
      rcases (wS_s hz j i).mp hi with a | ⟨⟨k, k1, k2, k3⟩, a⟩
      · exact q1 i (h i a)
      · have hi := (hG.2.1 k i k3).1
        exact q2 k i (Nat.zero_le _) k1 (h k k2) hi (by rw [← hfg]; exact k3) ((hal i hi).mp a)
theorem r7b {z : Nat → Nat} {w : Nat → Int32} {g : Nat → Nat → Int32} {x day : Int32} (hz : z 0 ≤ 12) {C : Nat → Prop} (hC : clo (z 0) (g 0) (fun i => i < z 0 ∧ alM z w g day i) C) : ∀ (n : Nat) (al : Int32) (ro : Nat), (∀ i, bt al i = true → C i) → ∀ i, bt (F_X5_reached_L7 z w g x day n al ro) i = true → C i := by
  intro n
  induction n with
  | zero =>
    intro al ro h
    rw [F_X5_reached_L7]
    exact h
  | succ n ih =>
    intro al ro h
    rw [F_X5_reached_L7]
    by_cases c : 12 ≤ ro
    · rw [if_pos c]; exact h
    · rw [if_neg c]
      exact ih _ _ (r17b hz hC _ _ _ h)
theorem reach_w {z : Nat → Nat} {v w : Nat → Int32} {f g : Nat → Nat → Int32} {day aw : Int32} {t : Nat} (hz : z 0 ≤ 12) (hG : rG (z 0) (f 0)) (hfg : f 0 = g 0) (hal : ∀ i, i < z 0 → (bt aw i = true ↔ alM z w g day i)) (ht : t < z 0) {j : Nat} (hj : z 0 ≤ j + 1) (i : Nat) : bt (F_X5_reached z w g (nI t) day) i = true ↔ bt (wS z v f aw t j) i = true := by
  rw [F_X5_reached]
  constructor
  · intro h
    refine r7b (C := fun i => bt (wS z v f aw t j) i = true) hz (fun a b ha hCa hE hb => ?_) _ _ _ (fun i hi => ?_) i h
    · rw [← hfg] at hE
      exact wS_clo hz hG ht hj a b ha hCa hE ((hal b hb.1).mpr hb.2)
    · rw [(b_one (by omega) i).mp hi]
      exact wS_t hz ht j
  · intro h
    have h12 := wS_min (v := v) (f := f) (aw := aw) (C := fun i => bt (wS z v f aw t 12) i = true) hz ht (wS_t hz ht 12) (wS_clo hz hG ht (by omega)) j i h
    exact r7a (v := v) (f := f) (aw := aw) (t := t) hz hG hfg hal 13 _ 0 0 (by omega) (by omega) (fun i hi => hi) i h12
theorem reach_eq {z : Nat → Nat} {v w : Nat → Int32} {f g : Nat → Nat → Int32} {day aw : Int32} {t : Nat} (hz : z 0 ≤ 12) (hG : rG (z 0) (f 0)) (hfg : f 0 = g 0) (hal : ∀ i, i < z 0 → (bt aw i = true ↔ alM z w g day i)) (ht : t < z 0) (i : Nat) : bt (F_X5_reached z w g (nI t) day) i = true ↔ i = t ∨ bt (F_X4_groupsAmong z v f (nI t) aw) i = true := by
  obtain ⟨j, hj, h⟩ := ga_eq (v := v) (f := f) (aw := aw) hz ht
  rw [reach_w (v := v) (f := f) (aw := aw) hz hG hfg hal ht hj, h]
/-- reached is closed, and the least such -/
theorem reach_clo {z : Nat → Nat} {v w : Nat → Int32} {f g : Nat → Nat → Int32} {day aw : Int32} {t : Nat} (hz : z 0 ≤ 12) (hG : rG (z 0) (f 0)) (hfg : f 0 = g 0) (hal : ∀ i, i < z 0 → (bt aw i = true ↔ alM z w g day i)) (ht : t < z 0) : clo (z 0) (f 0) (fun i => bt aw i = true) (fun i => bt (F_X5_reached z w g (nI t) day) i = true) := by
  intro a b ha hCa hE hb
  have hj : z 0 ≤ 12 + 1 := by omega
  rw [reach_w (v := v) (f := f) (aw := aw) hz hG hfg hal ht hj] at hCa ⊢
  exact wS_clo hz hG ht hj a b ha hCa hE hb
theorem reach_min {z : Nat → Nat} {v w : Nat → Int32} {f g : Nat → Nat → Int32} {day aw : Int32} {t : Nat} (hz : z 0 ≤ 12) (hG : rG (z 0) (f 0)) (hfg : f 0 = g 0) (hal : ∀ i, i < z 0 → (bt aw i = true ↔ alM z w g day i)) (ht : t < z 0) {C : Nat → Prop} (h1 : C t) (h2 : clo (z 0) (f 0) (fun i => bt aw i = true) C) {i : Nat} (hi : bt (F_X5_reached z w g (nI t) day) i = true) : C i := by
  have hj : z 0 ≤ 12 + 1 := by omega
  rw [reach_w (v := v) (f := f) (aw := aw) hz hG hfg hal ht hj] at hi
  exact wS_min hz ht h1 h2 12 i hi
