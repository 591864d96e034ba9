/-! the groups: level sets -/
theorem goa_L {z : Nat → Nat} {v : Nat → Int32} {f : Nat → Nat → Int32} {ms : Int32} (hz : z 0 ≤ 12) (i : Nat) : ∀ (n : Nat) (al : Int32) (k : Nat), z 0 < k + n → (bt (F_X4_groupsOfAll_L4 z v f ms n al k) i = true ↔ bt al i = true ∨ ∃ j, k ≤ j ∧ j < z 0 ∧ bt ms j = true ∧ bt (f 0 j) i = true) := by
  intro n
  induction n with
  | zero =>
    intro al k h
    rw [F_X4_groupsOfAll_L4]
    exact ⟨Or.inl, fun h => h.elim id (fun ⟨j, h1, h2, _⟩ => absurd h2 (by omega))⟩
  | succ n ih =>
    intro al k h
    rw [F_X4_groupsOfAll_L4]
    by_cases c : z 0 ≤ k
    · rw [if_pos c]
      exact ⟨Or.inl, fun h => h.elim id (fun ⟨j, h1, h2, _⟩ => absurd h2 (by omega))⟩
    · rw [if_neg c]
      by_cases d : F_X4_holds ms (nI k) = 0
      · rw [if_pos d, ih al (k + 1) (by omega)]
        rw [holds_bt (by omega)] at d
        constructor
        · rintro (h | ⟨j, h1, h2⟩)
          · exact Or.inl h
          · exact Or.inr ⟨j, by omega, h2⟩
        · rintro (h | ⟨j, h1, h2, h3, h4⟩)
          · exact Or.inl h
          · by_cases e : j = k
            · subst e; exact absurd h3 d
            · exact Or.inr ⟨j, by omega, h2, h3, h4⟩
      · rw [if_neg d, ih _ (k + 1) (by omega), bo]
        have d2 : bt ms k = true := Classical.byContradiction (fun a => d ((holds_bt (by omega) ms).mpr a))
        constructor
        · rintro ((h | h) | ⟨j, h1, h2⟩)
          · exact Or.inl h
          · exact Or.inr ⟨k, Nat.le_refl _, by omega, d2, h⟩
          · exact Or.inr ⟨j, by omega, h2⟩
        · rintro (h | ⟨j, h1, h2, h3, h4⟩)
          · exact Or.inl (Or.inl h)
          · by_cases e : j = k
            · subst e; exact Or.inl (Or.inr h4)
            · exact Or.inr ⟨j, by omega, h2, h3, h4⟩
theorem goa {z : Nat → Nat} {v : Nat → Int32} {f : Nat → Nat → Int32} {ms : Int32} (hz : z 0 ≤ 12) (i : Nat) : bt (F_X4_groupsOfAll z v f ms) i = true ↔ ∃ j, j < z 0 ∧ bt ms j = true ∧ bt (f 0 j) i = true := by
  rw [F_X4_groupsOfAll, goa_L hz i _ _ _ (by omega), b_0]
  constructor
  · rintro (h | ⟨j, _, h2⟩)
    · exact Bool.noConfusion h
    · exact ⟨j, h2⟩
  · rintro ⟨j, h2⟩
    exact Or.inr ⟨j, Nat.zero_le _, h2⟩
def wS (z : Nat → Nat) (v : Nat → Int32) (f : Nat → Nat → Int32) (aw : Int32) (t : Nat) : Nat → Int32
  | 0 => F_X4_bit (nI t)
  | j + 1 => wS z v f aw t j ||| (F_X4_groupsOfAll z v f (wS z v f aw t j) &&& aw)
theorem wS_0 {z : Nat → Nat} {v : Nat → Int32} {f : Nat → Nat → Int32} {aw : Int32} {t : Nat} (ht : t < 12) (i : Nat) : bt (wS z v f aw t 0) i = true ↔ i = t := b_bit (by omega) i
theorem wS_s {z : Nat → Nat} {v : Nat → Int32} {f : Nat → Nat → Int32} {aw : Int32} {t : Nat} (hz : z 0 ≤ 12) (j i : Nat) : bt (wS z v f aw t (j + 1)) i = true ↔ bt (wS z v f aw t j) i = true ∨ ((∃ k, k < z 0 ∧ bt (wS z v f aw t j) k = true ∧ bt (f 0 k) i = true) ∧ bt aw i = true) := by
  rw [wS, bo, ba, goa hz]
def clo (n : Nat) (D : Nat → Int32) (al C : Nat → Prop) : Prop := ∀ j i, j < n → C j → bt (D j) i = true → al i → C i
theorem wS_t {z : Nat → Nat} {v : Nat → Int32} {f : Nat → Nat → Int32} {aw : Int32} {t : Nat} (hz : z 0 ≤ 12) (ht : t < z 0) : ∀ j, bt (wS z v f aw t j) t = true
  | 0 => (wS_0 (by omega) t).mpr rfl
  | j + 1 => (wS_s hz j t).mpr (Or.inl (wS_t hz ht j))
theorem wS_cnt {z : Nat → Nat} {v : Nat → Int32} {f : Nat → Nat → Int32} {aw : Int32} {t : Nat} (hz : z 0 ≤ 12) (ht : t < z 0) : ∀ j, clo (z 0) (f 0) (fun i => bt aw i = true) (fun i => i < z 0 → bt (wS z v f aw t j) i = true) ∨ j + 1 ≤ cnt (bt (wS z v f aw t j)) (z 0)
  | 0 => Or.inr (cnt_pos (wS_t hz ht 0) _ ht)
  | j + 1 => by
    have ih := wS_cnt (v := v) (f := f) (aw := aw) hz ht j
    by_cases c : ∃ i, i < z 0 ∧ bt (wS z v f aw t (j + 1)) i = true ∧ ¬ bt (wS z v f aw t j) i = true
    · obtain ⟨i, h1, h2, h3⟩ := c
      rcases ih with ih | ih
      · rcases (wS_s hz j i).mp h2 with a | ⟨⟨k, k1, k2, k3⟩, a⟩
        · exact absurd a h3
        · exact absurd (ih k i k1 (fun _ => k2) k3 a h1) h3
      · have := cnt_lt (p := bt (wS z v f aw t j)) (q := bt (wS z v f aw t (j + 1))) (fun i hi => (wS_s hz j i).mpr (Or.inl hi)) h3 h2 (z 0) h1
        exact Or.inr (by omega)
    · refine Or.inl (fun a b ha hCa hE hal hb => ?_)
      have h1 : bt (wS z v f aw t j) a = true := Classical.byContradiction (fun e => c ⟨a, ha, hCa ha, e⟩)
      exact (wS_s hz j b).mpr (Or.inr ⟨⟨a, ha, h1, hE⟩, hal⟩)
theorem wS_clo {z : Nat → Nat} {v : Nat → Int32} {f : Nat → Nat → Int32} {aw : Int32} {t : Nat} (hz : z 0 ≤ 12) (hG : rG (z 0) (f 0)) (ht : t < z 0) {j : Nat} (hj : z 0 ≤ j + 1) : clo (z 0) (f 0) (fun i => bt aw i = true) (fun i => bt (wS z v f aw t j) i = true) := by
  intro a b ha hCa hE hal
  have hb := (hG.2.1 a b hE).1
  rcases wS_cnt (v := v) (f := f) (aw := aw) hz ht j with h | h
  · exact h a b ha (fun _ => hCa) hE hal hb
  · exact cnt_full (z 0) (by omega) b hb
theorem wS_min {z : Nat → Nat} {v : Nat → Int32} {f : Nat → Nat → Int32} {aw : Int32} {t : Nat} (hz : z 0 ≤ 12) (ht : t < z 0) {C : Nat → Prop} (h1 : C t) (h2 : clo (z 0) (f 0) (fun i => bt aw i = true) C) : ∀ j i, bt (wS z v f aw t j) i = true → C i
  | 0, i, h => by rw [(wS_0 (by omega) i).mp h]; exact h1
  | j + 1, i, h => by
    rcases (wS_s hz j i).mp h with a | ⟨⟨k, k1, k2, k3⟩, a⟩
    · exact wS_min hz ht h1 h2 j i a
    · exact h2 k i k1 (wS_min hz ht h1 h2 j k k2) k3 a
theorem ga_L {z : Nat → Nat} {v : Nat → Int32} {f : Nat → Nat → Int32} {aw : Int32} {t : Nat} (hz : z 0 ≤ 12) (ht : t < z 0) (x : Int32) : ∀ (n : Nat) (fo : Int32) (k j : Nat), z 0 < k + n → (∀ i, bt (wS z v f aw t j) i = true ↔ i = t ∨ bt fo i = true) → (∀ i, bt (f 0 t) i = true → bt aw i = true → bt fo i = true) → ∃ j', z 0 + j ≤ j' + k ∧ ∀ i, bt (wS z v f aw t j') i = true ↔ i = t ∨ bt (F_X4_groupsAmong_L12 z v f x aw n fo k) i = true := by
  intro n
  induction n with
  | zero =>
    intro fo k j h h1 h2
    rw [F_X4_groupsAmong_L12]
    exact ⟨j, by omega, h1⟩
  | succ n ih =>
    intro fo k j h h1 h2
    rw [F_X4_groupsAmong_L12]
    by_cases c : z 0 ≤ k
    · rw [if_pos c]
      exact ⟨j, by omega, h1⟩
    · rw [if_neg c]
      have h5 : ∀ i, bt (wS z v f aw t (j + 1)) i = true ↔ i = t ∨ bt (fo ||| ((F_X4_groupsOfAll z v f fo) &&& aw)) i = true := by
        intro i
        rw [wS_s hz, bo, ba, goa hz, h1]
        constructor
        · rintro ((a | a) | ⟨⟨q, q1, q2, q3⟩, a⟩)
          · exact Or.inl a
          · exact Or.inr (Or.inl a)
          · rcases (h1 q).mp q2 with e | e
            · subst e
              exact Or.inr (Or.inl (h2 i q3 a))
            · exact Or.inr (Or.inr ⟨⟨q, q1, e, q3⟩, a⟩)
        · rintro (a | a | ⟨⟨q, q1, q2, q3⟩, a⟩)
          · exact Or.inl (Or.inl a)
          · exact Or.inl (Or.inr a)
          · exact Or.inr ⟨⟨q, q1, (h1 q).mpr (Or.inr q2), q3⟩, a⟩
      obtain ⟨j', h3, h4⟩ := ih (fo ||| ((F_X4_groupsOfAll z v f fo) &&& aw)) (k + 1) (j + 1) (by omega) h5 (fun i a b => (bo _ _ _).mpr (Or.inl (h2 i a b)))
      exact ⟨j', by omega, h4⟩
theorem ga_eq {z : Nat → Nat} {v : Nat → Int32} {f : Nat → Nat → Int32} {aw : Int32} {t : Nat} (hz : z 0 ≤ 12) (ht : t < z 0) : ∃ j, z 0 ≤ j + 1 ∧ ∀ i, bt (wS z v f aw t j) i = true ↔ i = t ∨ bt (F_X4_groupsAmong z v f (nI t) aw) i = true := by
  rw [F_X4_groupsAmong, nI_clamp (show t < 2 ^ 31 by omega)]
  have h5 : ∀ i, bt (wS z v f aw t 1) i = true ↔ i = t ∨ bt (f 0 t &&& aw) i = true := by
    intro i
    rw [wS_s hz, ba, wS_0 (by omega)]
    constructor
    · rintro (a | ⟨⟨q, q1, q2, q3⟩, a⟩)
      · exact Or.inl a
      · rw [(wS_0 (by omega) q).mp q2] at q3
        exact Or.inr ⟨q3, a⟩
    · rintro (a | ⟨a, b⟩)
      · exact Or.inl a
      · exact Or.inr ⟨⟨t, ht, (wS_0 (by omega) t).mpr rfl, a⟩, b⟩
  obtain ⟨j, h1, h2⟩ := ga_L (v := v) (f := f) (aw := aw) hz ht (nI t) (z 0 + 1) (f 0 t &&& aw) 2 1 (by omega) h5 (fun i a b => (ba _ _ _).mpr ⟨a, b⟩)
  exact ⟨j, by omega, h2⟩
theorem ga_L2 {z : Nat → Nat} {v : Nat → Int32} {f : Nat → Nat → Int32} {aw : Int32} {Q : Nat → Prop} (hz : z 0 ≤ 12) (x : Int32) (hQ : ∀ k i, Q k → bt (f 0 k) i = true → Q i) : ∀ (n : Nat) (fo : Int32) (k : Nat), (∀ i, bt fo i = true → Q i) → ∀ i, bt (F_X4_groupsAmong_L12 z v f x aw n fo k) i = true → Q i := by
  intro n
  induction n with
  | zero =>
    intro fo k h1
    rw [F_X4_groupsAmong_L12]
    exact h1
  | succ n ih =>
    intro fo k h1
    rw [F_X4_groupsAmong_L12]
    by_cases c : z 0 ≤ k
    · rw [if_pos c]
      exact h1
    · rw [if_neg c]
      refine ih _ _ (fun i hi => ?_)
      rw [bo, ba, goa hz] at hi
      rcases hi with a | ⟨⟨q, q1, q2, q3⟩, a⟩
      · exact h1 i a
      · exact hQ q i (h1 q q2) q3
theorem ga_below {z : Nat → Nat} {v : Nat → Int32} {f : Nat → Nat → Int32} {aw : Int32} {t : Nat} (hz : z 0 ≤ 12) (hG : rG (z 0) (f 0)) (ht : t < z 0) {i : Nat} (hi : bt (F_X4_groupsAmong z v f (nI t) aw) i = true) : i < z 0 ∧ i ≠ t := by
  obtain ⟨-, g2, ⟨rk, g3⟩, -⟩ := hG
  have h : i < z 0 ∧ rk i < rk t := by
    rw [F_X4_groupsAmong, nI_clamp (show t < 2 ^ 31 by omega)] at hi
    refine ga_L2 (Q := fun i => i < z 0 ∧ rk i < rk t) hz (nI t) (fun k i hk e => ⟨(g2 k i e).1, ?_⟩) _ _ _ (fun i hi => ?_) i hi
    · have := g3 k i e
      have := hk.2
      omega
    · have e := ((ba _ _ _).mp hi).1
      exact ⟨(g2 t i e).1, g3 t i e⟩
  exact ⟨h.1, fun e => by rw [e] at h; omega⟩
