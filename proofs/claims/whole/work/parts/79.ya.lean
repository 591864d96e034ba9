def ok4 (x : Int32) : Prop := x = 0 ∨ x = 5 ∨ x = 6 ∨ x = 7
theorem min_le {le x v : Int32} : (if le ≤ x then le else x) ≤ v ↔ le ≤ v ∨ x ≤ v := by
  by_cases c : le ≤ x
  · rw [if_pos c]
    rw [Int32.le_iff_toInt_le] at c
    rw [Int32.le_iff_toInt_le, Int32.le_iff_toInt_le]
    omega
  · rw [if_neg c]
    rw [Int32.le_iff_toInt_le] at c
    rw [Int32.le_iff_toInt_le, Int32.le_iff_toInt_le]
    omega
theorem th_ok {z : Nat → Nat} {v : Nat → Int32} {f : Nat → Nat → Int32} (t o di a pl day : Int32) : ok4 (F_X5_through z v f t o di a pl day) := by
  rw [F_X5_through]
  split
  · exact Or.inr (Or.inr (Or.inr rfl))
  · split
    · exact Or.inr (Or.inr (Or.inl rfl))
    · split
      · split
        · exact Or.inr (Or.inl rfl)
        · exact Or.inl rfl
      · exact Or.inl rfl
theorem an_step {z : Nat → Nat} {v : Nat → Int32} {f : Nat → Nat → Int32} {t a pl day : Int32} (n : Nat) (le : Int32) (k : Nat) : F_X5_answer_L105 z v f t a pl day (n + 1) le k = if z 2 ≤ k then le else F_X5_answer_L105 z v f t a pl day n (if le ≤ (if f 10 k = t then (if f 12 k < day then 7 else F_X5_through z v f t (f 9 k) (f 11 k) a pl day) else 7) then le else (if f 10 k = t then (if f 12 k < day then 7 else F_X5_through z v f t (f 9 k) (f 11 k) a pl day) else 7)) (k + 1) := by
  rw [F_X5_answer_L105]
  by_cases c : z 2 ≤ k
  · rw [if_pos c, if_pos c]
  rw [if_neg c, if_neg c]
  by_cases c1 : f 10 k = t
  · rw [if_pos c1, if_pos c1]
    by_cases c2 : f 12 k < day
    · rw [if_pos c2, if_pos c2]
      by_cases c3 : le ≤ 7
      · rw [if_pos c3, if_pos c3]
      · rw [if_neg c3, if_neg c3]
    · rw [if_neg c2, if_neg c2]
      by_cases c3 : le ≤ F_X5_through z v f t (f 9 k) (f 11 k) a pl day
      · rw [if_pos c3, if_pos c3]
      · rw [if_neg c3, if_neg c3]
  · rw [if_neg c1, if_neg c1]
    by_cases c3 : le ≤ 7
    · rw [if_pos c3, if_pos c3]
    · rw [if_neg c3, if_neg c3]
theorem an_L {z : Nat → Nat} {v : Nat → Int32} {f : Nat → Nat → Int32} {t a pl day m : Int32} (hm : ¬ (7 : Int32) ≤ m) : ∀ (n : Nat) (le : Int32) (k : Nat), z 2 < k + n → (F_X5_answer_L105 z v f t a pl day n le k ≤ m ↔ le ≤ m ∨ ∃ j, k ≤ j ∧ j < z 2 ∧ f 10 j = t ∧ ¬ f 12 j < day ∧ F_X5_through z v f t (f 9 j) (f 11 j) a pl day ≤ m) := by
  intro n
  induction n with
  | zero =>
    intro le k h
    rw [F_X5_answer_L105]
    exact ⟨Or.inl, fun h => h.elim id (fun ⟨j, a, b, _⟩ => absurd b (by omega))⟩
  | succ n ih =>
    intro le k h
    rw [an_step]
    by_cases c : z 2 ≤ k
    · rw [if_pos c]
      exact ⟨Or.inl, fun h => h.elim id (fun ⟨j, a, b, _⟩ => absurd b (by omega))⟩
    · rw [if_neg c, ih _ _ (by omega), min_le]
      have e : ((if f 10 k = t then (if f 12 k < day then 7 else F_X5_through z v f t (f 9 k) (f 11 k) a pl day) else 7) ≤ m) ↔ (f 10 k = t ∧ ¬ f 12 k < day ∧ F_X5_through z v f t (f 9 k) (f 11 k) a pl day ≤ m) := by
        by_cases c1 : f 10 k = t
        · rw [if_pos c1]
          by_cases c2 : f 12 k < day
          · rw [if_pos c2]; exact ⟨fun q => absurd q hm, fun q => absurd c2 q.2.1⟩
          · rw [if_neg c2]; exact ⟨fun q => ⟨c1, c2, q⟩, fun q => q.2.2⟩
        · rw [if_neg c1]; exact ⟨fun q => absurd q hm, fun q => absurd q.1 c1⟩
      rw [e]
      constructor
      · rintro ((a | a) | ⟨j, a, b⟩)
        · exact Or.inl a
        · exact Or.inr ⟨k, Nat.le_refl _, by omega, a⟩
        · exact Or.inr ⟨j, by omega, b⟩
      · rintro (a | ⟨j, a, b, d⟩)
        · exact Or.inl (Or.inl a)
        · by_cases q : j = k
          · subst q; exact Or.inl (Or.inr d)
          · exact Or.inr ⟨j, by omega, b, d⟩
theorem ite_ok {c : Prop} [Decidable c] {x y : Int32} (hx : ok4 x) (hy : ok4 y) : ok4 (if c then x else y) := by
  by_cases d : c
  · rw [if_pos d]; exact hx
  · rw [if_neg d]; exact hy
theorem an_ok {z : Nat → Nat} {v : Nat → Int32} {f : Nat → Nat → Int32} {t a pl day : Int32} : ∀ (n : Nat) (le : Int32) (k : Nat), ok4 le → ok4 (F_X5_answer_L105 z v f t a pl day n le k) := by
  intro n
  induction n with
  | zero => intro le k h; rw [F_X5_answer_L105]; exact h
  | succ n ih =>
    intro le k h
    rw [an_step]
    by_cases c : z 2 ≤ k
    · rw [if_pos c]; exact h
    · rw [if_neg c]
      have k7 : ok4 7 := Or.inr (Or.inr (Or.inr rfl))
      exact ih _ _ (ite_ok h (ite_ok (ite_ok k7 (th_ok _ _ _ _ _ _)) k7))
theorem th_6 {z : Nat → Nat} {v : Nat → Int32} {f : Nat → Nat → Int32} {t o di a pl day : Int32} : F_X5_through z v f t o di a pl day ≤ 6 ↔ ¬ F_X5_has z v f o a pl day = 0 := by
  rw [F_X5_through]
  by_cases c : F_X5_has z v f o a pl day = 0
  · rw [if_pos c]; exact ⟨fun q => absurd q (by decide), fun q => absurd c q⟩
  · rw [if_neg c]
    refine ⟨fun _ => c, fun _ => ?_⟩
    split
    · decide
    · split
      · split
        · decide
        · decide
      · decide
theorem th_5 {z : Nat → Nat} {v : Nat → Int32} {f : Nat → Nat → Int32} {t o di a pl day : Int32} : F_X5_through z v f t o di a pl day ≤ 5 ↔ (¬ F_X5_has z v f o a pl day = 0) ∧ ¬ F_X5_isAlive z v f o day = 0 := by
  rw [F_X5_through]
  by_cases c : F_X5_has z v f o a pl day = 0
  · rw [if_pos c]; exact ⟨fun q => absurd q (by decide), fun q => absurd c q.1⟩
  · rw [if_neg c]
    by_cases d : F_X5_isAlive z v f o day = 0
    · rw [if_pos d]; exact ⟨fun q => absurd q (by decide), fun q => absurd d q.2⟩
    · rw [if_neg d]
      refine ⟨fun _ => ⟨c, d⟩, fun _ => ?_⟩
      split
      · split
        · decide
        · decide
      · decide
theorem th_0 {z : Nat → Nat} {v : Nat → Int32} {f : Nat → Nat → Int32} {t o di a pl day : Int32} : F_X5_through z v f t o di a pl day ≤ 0 ↔ (¬ F_X5_has z v f o a pl day = 0) ∧ (¬ F_X5_isAlive z v f o day = 0) ∧ ((¬ di = 0) ∨ ¬ F_X5_has z v f t 0 pl day = 0) := by
  rw [F_X5_through]
  by_cases c : F_X5_has z v f o a pl day = 0
  · rw [if_pos c]; exact ⟨fun q => absurd q (by decide), fun q => absurd c q.1⟩
  · rw [if_neg c]
    by_cases d : F_X5_isAlive z v f o day = 0
    · rw [if_pos d]; exact ⟨fun q => absurd q (by decide), fun q => absurd d q.2.1⟩
    · rw [if_neg d]
      by_cases e : di = 0
      · rw [if_pos e]
        by_cases g : F_X5_has z v f t 0 pl day = 0
        · rw [if_pos g]; exact ⟨fun q => absurd q (by decide), fun q => q.2.2.elim (fun b => absurd e b) (fun b => absurd g b)⟩
        · rw [if_neg g]; exact ⟨fun _ => ⟨c, d, Or.inr g⟩, fun _ => by decide⟩
      · rw [if_neg e]; exact ⟨fun _ => ⟨c, d, Or.inl e⟩, fun _ => by decide⟩
/-- the reference's least answer, by what stands -/
theorem least {z : Nat → Nat} {vx vm : Nat → Int32} {fx fm : Nat → Nat → Int32} {a pl day : Int32} (h : REL z vx fx z vm fm) {t : Nat} (ht : t < z 0) (le : Int32) (hle : (fm 2 t < 0 ∧ le = 7) ∨ ((¬ fm 2 t < 0) ∧ le = F_X5_through z vm fm (nI t) (fm 2 t) 1 a pl day)) {m : Int32} (hm : ¬ (7 : Int32) ≤ m) : F_X5_answer_L105 z vm fm (nI t) a pl day (z 2 + 1) le 0 ≤ m ↔ ∃ o, o < z 0 ∧ ((bt (F_X4_principalSet z vx fx (nI t) ||| F_X0_giversTo z vx fx (nI t) 1 day) o = true ∧ F_X5_through z vm fm (nI t) (nI o) 1 a pl day ≤ m) ∨ (bt (F_X0_giversTo z vx fx (nI t) 0 day) o = true ∧ F_X5_through z vm fm (nI t) (nI o) 0 a pl day ≤ m)) := by
  obtain ⟨-, ⟨m0, m1, m2, m3, m4, m5, m6, m7, m8⟩, -, hv, hF, hT, hD, hG, hB, hR, hM, hL⟩ := h
  obtain ⟨p10, p11, p12, p13⟩ := hF.2.2.1
  have e3 : fx 3 t = fm 2 t := (hT.1 t ht).1
  have hp : ∀ o, o < z 0 → (bt (F_X4_principalSet z vx fx (nI t)) o = true ↔ fm 2 t = nI o) := by
    intro o ho
    rw [F_X4_principalSet, nI_clamp (show t < 2 ^ 31 by omega), e3]
    rcases hD.2 t ht with e | ⟨k, hk, e, -⟩
    · rw [if_pos e, b_0, e]
      exact ⟨fun q => Bool.noConfusion q, fun q => absurd q.symm (nI_m1 (by omega))⟩
    · rw [e, if_neg (nI_m1 (by omega)), b_bit (by omega)]
      exact ⟨fun q => by rw [q], fun q => (nI_inj12 (by omega) (by omega) q).symm⟩
  have hg : ∀ di o, o < z 0 → (bt (F_X0_giversTo z vx fx (nI t) di day) o = true ↔ ∃ j, j < z 2 ∧ fm 10 j = nI t ∧ (¬ fm 12 j < day) ∧ fm 11 j = di ∧ fm 9 j = nI o) := by
    intro di o ho
    rw [gv_bt, p10, p11, p12, p13]
    constructor
    · rintro ⟨j, hj, ⟨h1, h2, h3⟩, h4⟩
      obtain ⟨⟨c, hc, e⟩, -⟩ := hM j hj
      rw [e, b_bit (by omega)] at h4
      exact ⟨j, hj, h1, h3, h2, by rw [e, h4]⟩
    · rintro ⟨j, hj, h1, h3, h2, h4⟩
      exact ⟨j, hj, ⟨h1, h2, h3⟩, by rw [h4, b_bit (by omega)]⟩
  rw [an_L hm _ _ _ (by omega)]
  constructor
  · rintro (q | ⟨j, -, hj, h1, h2, h3⟩)
    · rcases hle with ⟨-, e⟩ | ⟨hn, e⟩
      · rw [e] at q; exact absurd q hm
      · rcases hD.2 t ht with e2 | ⟨k, hk, e2, -⟩
        · exact absurd (show fm 2 t < 0 by rw [e2]; decide) hn
        · rw [e, e2] at q
          exact ⟨k, hk, Or.inl ⟨(bo _ _ _).mpr (Or.inl ((hp k hk).mpr e2)), q⟩⟩
    · obtain ⟨⟨c, hc, e⟩, -⟩ := hM j hj
      rw [e] at h3
      rcases zB_cases (m5 j) with e2 | e2
      · rw [e2] at h3
        exact ⟨c, hc, Or.inr ⟨(hg 0 c hc).mpr ⟨j, hj, h1, h2, e2, e⟩, h3⟩⟩
      · rw [e2] at h3
        exact ⟨c, hc, Or.inl ⟨(bo _ _ _).mpr (Or.inr ((hg 1 c hc).mpr ⟨j, hj, h1, h2, e2, e⟩)), h3⟩⟩
  · rintro ⟨o, ho, (⟨h1, h2⟩ | ⟨h1, h2⟩)⟩
    · rcases (bo _ _ _).mp h1 with h1 | h1
      · have e2 := (hp o ho).mp h1
        rcases hle with ⟨hn, -⟩ | ⟨-, e⟩
        · rw [e2] at hn; exact absurd hn (nI_pos (by omega))
        · refine Or.inl ?_
          rw [e, e2]; exact h2
      · obtain ⟨j, hj, a1, a2, a3, a4⟩ := (hg 1 o ho).mp h1
        refine Or.inr ⟨j, Nat.zero_le _, hj, a1, a2, ?_⟩
        rw [a3, a4]; exact h2
    · obtain ⟨j, hj, a1, a2, a3, a4⟩ := (hg 0 o ho).mp h1
      refine Or.inr ⟨j, Nat.zero_le _, hj, a1, a2, ?_⟩
      rw [a3, a4]; exact h2
theorem ne0_bt (x : Int32) : (¬ x = 0) ↔ ∃ i, bt x i = true := by
  rw [zero_bt]
  constructor
  · intro hn
    obtain ⟨c, hc⟩ := Classical.not_forall.mp hn
    exact ⟨c, Classical.not_not.mp hc⟩
  · rintro ⟨i, hi⟩ hn
    exact hn i hi
theorem ok4_0 {x : Int32} (h : ok4 x) (q : x ≤ 0) : x = 0 := by
  rcases h with rfl | rfl | rfl | rfl
  · rfl
  · exact absurd q (by decide)
  · exact absurd q (by decide)
  · exact absurd q (by decide)
theorem ok4_5 {x : Int32} (h : ok4 x) (q : x ≤ 5) (n : ¬ x ≤ 0) : x = 5 := by
  rcases h with rfl | rfl | rfl | rfl
  · exact absurd (by decide) n
  · rfl
  · exact absurd q (by decide)
  · exact absurd q (by decide)
theorem ok4_6 {x : Int32} (h : ok4 x) (q : x ≤ 6) (n : ¬ x ≤ 5) : x = 6 := by
  rcases h with rfl | rfl | rfl | rfl
  · exact absurd (by decide) n
  · exact absurd (by decide) n
  · rfl
  · exact absurd q (by decide)
theorem ok4_7 {x : Int32} (h : ok4 x) (n : ¬ x ≤ 6) : x = 7 := by
  rcases h with rfl | rfl | rfl | rfl
  · exact absurd (by decide) n
  · exact absurd (by decide) n
  · exact absurd (by decide) n
  · rfl
/-- one answer for an alive trader without the right of his own -/
theorem alive_ans {z : Nat → Nat} {vx vm : Nat → Int32} {fx fm : Nat → Nat → Int32} {a pl day : Int32} (h : REL z vx fx z vm fm) (hd : ¬ day < 0) {t : Nat} (ht : t < z 0) (hno : F_X5_has z vm fm (nI t) a pl day = 0) (le : Int32) (hok : ok4 le) (hle : (fm 2 t < 0 ∧ le = 7) ∨ ((¬ fm 2 t < 0) ∧ le = F_X5_through z vm fm (nI t) (fm 2 t) 1 a pl day)) : F_X4_answerForAlive z vx fx (nI t) a pl day = if F_X5_answer_L105 z vm fm (nI t) a pl day (z 2 + 1) le 0 ≤ 4 then F_X5_answer_L105 z vm fm (nI t) a pl day (z 2 + 1) le 0 else if F_X5_isForbidden z vm fm (nI t) a = 0 then F_X5_answer_L105 z vm fm (nI t) a pl day (z 2 + 1) le 0 else 4 := by
  have ok := an_ok (z := z) (v := vm) (f := fm) (t := nI t) (a := a) (pl := pl) (day := day) (z 2 + 1) le 0 hok
  have l0 := least h ht le hle (m := 0) (by decide)
  have l5 := least h ht le hle (m := 5) (by decide)
  have l6 := least h ht le hle (m := 6) (by decide)
  simp only [th_0] at l0
  simp only [th_5] at l5
  simp only [th_6] at l6
  have hz : z 0 ≤ 12 := h.2.1.1
  obtain ⟨-, -, -, hv, hF, hT, -⟩ := id h
  have hOw := fun i => own_has (a := a) (pl := pl) h hd i
  have hOw0 := own_has (a := 0) (pl := pl) h hd t
  have hAl := fun i => al_eq (vx := vx) (vm := vm) (day := day) hz hF hT i
  rw [F_X4_answerForAlive]
  generalize F_X5_answer_L105 z vm fm (nI t) a pl day (z 2 + 1) le 0 = r at ok l0 l5 l6 ⊢
  generalize F_X4_ownersOf z vx fx a pl day (F_X4_aliveOn z vx fx day) = ow at hOw ⊢
  generalize F_X4_ownersOf z vx fx 0 pl day (F_X4_aliveOn z vx fx day) = ow0 at hOw0 ⊢
  generalize F_X4_aliveOn z vx fx day = al at hAl ⊢
  generalize F_X4_principalSet z vx fx (nI t) ||| F_X0_giversTo z vx fx (nI t) 1 day = dr at l0 l5 l6 ⊢
  generalize F_X0_giversTo z vx fx (nI t) 0 day = iv at l0 l5 l6 ⊢
  rw [forb_eq (vm := vm) hF]
  have A1 : (¬ ((ow &&& dr) &&& al) = 0) ↔ ∃ o, o < z 0 ∧ bt dr o = true ∧ (¬ F_X5_has z vm fm (nI o) a pl day = 0) ∧ ¬ F_X5_isAlive z vm fm (nI o) day = 0 := by
    rw [ne0_bt]
    constructor
    · rintro ⟨i, hi⟩
      rw [ba, ba, hOw, hAl] at hi
      exact ⟨i, hi.1.1.1, hi.1.2, hi.1.1.2, hi.2.2⟩
    · rintro ⟨i, h1, h2, h3, h4⟩
      refine ⟨i, ?_⟩
      rw [ba, ba, hOw, hAl]
      exact ⟨⟨⟨h1, h3⟩, h2⟩, h1, h4⟩
  have A2 : (¬ ((ow &&& iv) &&& al) = 0) ↔ ∃ o, o < z 0 ∧ bt iv o = true ∧ (¬ F_X5_has z vm fm (nI o) a pl day = 0) ∧ ¬ F_X5_isAlive z vm fm (nI o) day = 0 := by
    rw [ne0_bt]
    constructor
    · rintro ⟨i, hi⟩
      rw [ba, ba, hOw, hAl] at hi
      exact ⟨i, hi.1.1.1, hi.1.2, hi.1.1.2, hi.2.2⟩
    · rintro ⟨i, h1, h2, h3, h4⟩
      refine ⟨i, ?_⟩
      rw [ba, ba, hOw, hAl]
      exact ⟨⟨⟨h1, h3⟩, h2⟩, h1, h4⟩
  have A3 : (¬ ((ow &&& dr) ||| (ow &&& iv)) = 0) ↔ ∃ o, o < z 0 ∧ (bt dr o = true ∨ bt iv o = true) ∧ ¬ F_X5_has z vm fm (nI o) a pl day = 0 := by
    rw [ne0_bt]
    constructor
    · rintro ⟨i, hi⟩
      rw [bo, ba, ba, hOw] at hi
      rcases hi with ⟨⟨h1, h2⟩, h3⟩ | ⟨⟨h1, h2⟩, h3⟩
      · exact ⟨i, h1, Or.inl h3, h2⟩
      · exact ⟨i, h1, Or.inr h3, h2⟩
    · rintro ⟨i, h1, h2, h3⟩
      refine ⟨i, ?_⟩
      rw [bo, ba, ba, hOw]
      exact h2.elim (fun q => Or.inl ⟨⟨h1, h3⟩, q⟩) (fun q => Or.inr ⟨⟨h1, h3⟩, q⟩)
  have H : F_X4_holds ow (nI t) = 0 := (holds_bt (by omega) _).mpr (fun q => ((hOw t).mp q).2 hno)
  have B : F_X4_holds ow0 (nI t) = 0 ↔ F_X5_has z vm fm (nI t) 0 pl day = 0 := by
    rw [holds_bt (by omega), hOw0]
    exact ⟨fun q => Classical.byContradiction (fun w => q ⟨ht, w⟩), fun q w => w.2 q⟩
  rw [if_pos H]
  have i0 : r ≤ 0 ↔ (¬ ((ow &&& dr) &&& al) = 0) ∨ ((¬ ((ow &&& iv) &&& al) = 0) ∧ ¬ F_X4_holds ow0 (nI t) = 0) := by
    rw [l0, A1, A2, B]
    constructor
    · rintro ⟨o, ho, (⟨h1, h2, h3, -⟩ | ⟨h1, h2, h3, h4⟩)⟩
      · exact Or.inl ⟨o, ho, h1, h2, h3⟩
      · exact Or.inr ⟨⟨o, ho, h1, h2, h3⟩, h4.elim (fun q => absurd trivial q) id⟩
    · rintro (⟨o, ho, h1, h2, h3⟩ | ⟨⟨o, ho, h1, h2, h3⟩, h4⟩)
      · exact ⟨o, ho, Or.inl ⟨h1, h2, h3, Or.inl (by decide)⟩⟩
      · exact ⟨o, ho, Or.inr ⟨h1, h2, h3, Or.inr h4⟩⟩
  have i5 : r ≤ 5 ↔ (¬ ((ow &&& dr) &&& al) = 0) ∨ (¬ ((ow &&& iv) &&& al) = 0) := by
    rw [l5, A1, A2]
    constructor
    · rintro ⟨o, ho, (⟨h1, h2, h3⟩ | ⟨h1, h2, h3⟩)⟩
      · exact Or.inl ⟨o, ho, h1, h2, h3⟩
      · exact Or.inr ⟨o, ho, h1, h2, h3⟩
    · rintro (⟨o, ho, h1, h2, h3⟩ | ⟨o, ho, h1, h2, h3⟩)
      · exact ⟨o, ho, Or.inl ⟨h1, h2, h3⟩⟩
      · exact ⟨o, ho, Or.inr ⟨h1, h2, h3⟩⟩
  have i6 : r ≤ 6 ↔ ¬ ((ow &&& dr) ||| (ow &&& iv)) = 0 := by
    rw [l6, A3]
    constructor
    · rintro ⟨o, ho, (⟨h1, h2⟩ | ⟨h1, h2⟩)⟩
      · exact ⟨o, ho, Or.inl h1, h2⟩
      · exact ⟨o, ho, Or.inr h1, h2⟩
    · rintro ⟨o, ho, (h1 | h1), h2⟩
      · exact ⟨o, ho, Or.inl ⟨h1, h2⟩⟩
      · exact ⟨o, ho, Or.inr ⟨h1, h2⟩⟩
  clear l0 l5 l6 A1 A2 A3 hOw hOw0 hAl B H
  by_cases c1 : ((ow &&& dr) &&& al) = 0
  · rw [if_pos c1]
    by_cases c2 : ((ow &&& iv) &&& al) = 0
    · have n5 : ¬ r ≤ 5 := fun q => (i5.mp q).elim (fun w => w c1) (fun w => w c2)
      rw [if_pos c2]
      by_cases c4 : ((ow &&& dr) ||| (ow &&& iv)) = 0
      · have e := ok4_7 ok (fun q => i6.mp q c4)
        rw [if_pos c2, if_pos c4, e, if_neg (show ¬ (7 : Int32) ≤ 4 by decide)]
      · have e := ok4_6 ok (i6.mpr c4) n5
        rw [if_pos c2, if_neg c4, e, if_neg (show ¬ (6 : Int32) ≤ 4 by decide)]
    · rw [if_neg c2]
      by_cases c3 : F_X4_holds ow0 (nI t) = 0
      · have e := ok4_5 ok (i5.mpr (Or.inr c2)) (fun q => (i0.mp q).elim (fun w => w c1) (fun w => w.2 c3))
        rw [if_pos c3, if_neg c2, e, if_neg (show ¬ (5 : Int32) ≤ 4 by decide)]
      · have e := ok4_0 ok (i0.mpr (Or.inr ⟨c2, c3⟩))
        rw [if_neg c3, e, if_pos (show (0 : Int32) ≤ 4 by decide)]
  · have e := ok4_0 ok (i0.mpr (Or.inl c1))
    rw [if_neg c1, e, if_pos (show (0 : Int32) ≤ 4 by decide)]
theorem ow_yes {z : Nat → Nat} {vx vm : Nat → Int32} {fx fm : Nat → Nat → Int32} {a pl day : Int32} (h : REL z vx fx z vm fm) (hd : ¬ day < 0) {t : Nat} (ht : t < z 0) (hyes : ¬ F_X5_has z vm fm (nI t) a pl day = 0) : F_X4_answerForAlive z vx fx (nI t) a pl day = 0 := by
  have hz : z 0 ≤ 12 := h.2.1.1
  rw [F_X4_answerForAlive, if_neg (fun q => (holds_bt (show t < 32 by omega) _).mp q ((own_has (a := a) (pl := pl) h hd t).mpr ⟨ht, hyes⟩))]
theorem may_eq {z : Nat → Nat} {vx vm : Nat → Int32} {fx fm : Nat → Nat → Int32} (h : REL z vx fx z vm fm) (t a pl day : Int32) : F_X4_may z vx fx t a pl day = F_X5_answer z vm fm t a pl day := by
  have m0 : z 0 ≤ 12 := h.2.1.1
  obtain ⟨-, -, -, hv, hF, hT, -⟩ := id h
  rw [F_X4_may, F_X5_answer, eqTr z vx vm fx fm, eqAct, eqPlace, eqDay]
  by_cases c1 : F_X5_isTrader z vm fm t = 0
  · rw [if_pos c1, if_pos c1]
  rw [if_neg c1, if_neg c1]
  by_cases c2 : F_X5_isEight a = 0
  · rw [if_pos c2, if_pos c2]
  rw [if_neg c2, if_neg c2]
  by_cases c3 : F_X5_isEight pl = 0
  · rw [if_pos c3, if_pos c3]
  rw [if_neg c3, if_neg c3]
  by_cases c4 : F_X5_isDay day = 0
  · rw [if_pos c4, if_pos c4]
  rw [if_neg c4, if_neg c4]
  obtain ⟨i, hi, rfl⟩ := isT_nat m0 c1
  have hd := day_nn c4
  rw [ended_eq (vm := vm) m0 hT hi, on_eq (vm := vm) hF, nI_clamp (show i < 2 ^ 31 by omega)]
  by_cases c5 : F_X5_isEnded z vm fm (nI i) day = 0
  · rw [if_pos c5, if_pos c5]
    by_cases c6 : F_X5_isSuspended z vm fm (nI i) day = 0
    · rw [if_pos c6, if_pos c6]
      by_cases c7 : F_X5_has z vm fm (nI i) a pl day = 0
      · rw [if_pos c7]
        by_cases c8 : fm 2 i < 0
        · rw [if_pos c8]
          exact alive_ans h hd hi c7 7 (Or.inr (Or.inr (Or.inr rfl))) (Or.inl ⟨c8, rfl⟩)
        · rw [if_neg c8]
          exact alive_ans h hd hi c7 _ (th_ok _ _ _ _ _ _) (Or.inr ⟨c8, rfl⟩)
      · rw [if_neg c7]
        exact ow_yes h hd hi c7
    · rw [if_neg c6, if_neg c6]
  · rw [if_neg c5, if_neg c5]
theorem pu_may {zx zm : Nat → Nat} {vx vm : Nat → Int32} {fx fm : Nat → Nat → Int32} (h : REL zx vx fx zm vm fm) (t a pl day : Int32) : (F_X4_may zx vx fx t a pl day) = (F_X5_may zm vm fm t a pl day).1 ∧ REL zx vx fx (F_X5_may zm vm fm t a pl day).2.2.1 (F_X5_may zm vm fm t a pl day).2.2.2.1 (F_X5_may zm vm fm t a pl day).2.2.2.2 := by
  obtain ⟨-, -, rfl, -⟩ := id h
  rw [F_X5_may]
  exact ⟨may_eq h t a pl day, h⟩
def ok8 (x : Int32) : Prop := x = 0 ∨ x = 1 ∨ x = 2 ∨ x = 3 ∨ x = 4 ∨ x = 5 ∨ x = 6 ∨ x = 7
theorem ite8 {c : Prop} [Decidable c] {x y : Int32} (hx : ok8 x) (hy : ok8 y) : ok8 (if c then x else y) := by
  by_cases d : c
  · rw [if_pos d]; exact hx
  · rw [if_neg d]; exact hy
theorem k8_0 : ok8 0 := Or.inl rfl
theorem k8_1 : ok8 1 := Or.inr (Or.inl rfl)
theorem k8_2 : ok8 2 := Or.inr (Or.inr (Or.inl rfl))
theorem k8_3 : ok8 3 := Or.inr (Or.inr (Or.inr (Or.inl rfl)))
theorem k8_4 : ok8 4 := Or.inr (Or.inr (Or.inr (Or.inr (Or.inl rfl))))
theorem k8_5 : ok8 5 := Or.inr (Or.inr (Or.inr (Or.inr (Or.inr (Or.inl rfl)))))
theorem k8_6 : ok8 6 := Or.inr (Or.inr (Or.inr (Or.inr (Or.inr (Or.inr (Or.inl rfl))))))
theorem k8_7 : ok8 7 := Or.inr (Or.inr (Or.inr (Or.inr (Or.inr (Or.inr (Or.inr (rfl)))))))
theorem may_ok8 (z : Nat → Nat) (v : Nat → Int32) (f : Nat → Nat → Int32) (t a pl day : Int32) : ok8 (F_X4_may z v f t a pl day) := by
  rw [F_X4_may]
  refine ite8 k8_1 (ite8 k8_1 (ite8 k8_1 (ite8 k8_1 (ite8 (ite8 ?_ k8_3) k8_2))))
  rw [F_X4_answerForAlive]
  have q : ∀ {c d e : Prop} [Decidable c] [Decidable d] [Decidable e], ok8 (if c then (if d then (if e then 7 else 6) else 5) else 4) := ite8 (ite8 (ite8 k8_7 k8_6) k8_5) k8_4
  exact ite8 (ite8 (ite8 q (ite8 q k8_0)) k8_0) k8_0
theorem may_nn (z : Nat → Nat) (v : Nat → Int32) (f : Nat → Nat → Int32) (t a pl day : Int32) : F_X4_may z v f t a pl day ≤ 0 ↔ F_X4_may z v f t a pl day = 0 := by
  refine ⟨fun q => ?_, fun q => by rw [q]; decide⟩
  have e : ∀ x : Int32, ok8 x → x ≤ 0 → x = 0 := by
    intro x hx q
    rcases hx with rfl | rfl | rfl | rfl | rfl | rfl | rfl | rfl
    · rfl
    all_goals exact absurd q (by decide)
  exact e _ (may_ok8 z v f t a pl day) q
theorem may_tr {z : Nat → Nat} {v : Nat → Int32} {f : Nat → Nat → Int32} (w : Nat → Int32) (g : Nat → Nat → Int32) {t a pl day : Int32} (h : F_X4_may z v f t a pl day = 0) : (¬ F_X5_isTrader z w g t = 0) ∧ ¬ F_X5_isEight a = 0 := by
  rw [F_X4_may, eqTr z v w f g, eqAct] at h
  by_cases c1 : F_X5_isTrader z w g t = 0
  · rw [if_pos c1] at h; exact absurd h (by decide)
  · rw [if_neg c1] at h
    by_cases c2 : F_X5_isEight a = 0
    · rw [if_pos c2] at h; exact absurd h (by decide)
    · exact ⟨c1, c2⟩
theorem pu_done {zx zm : Nat → Nat} {vx vm : Nat → Int32} {fx fm : Nat → Nat → Int32} (h : REL zx vx fx zm vm fm) (a pl day t u : Int32) : (F_X4_done zx vx fx a pl day t u) = (F_X5_done zm vm fm a pl day t u).1 ∧ REL zx vx fx (F_X5_done zm vm fm a pl day t u).2.2.1 (F_X5_done zm vm fm a pl day t u).2.2.2.1 (F_X5_done zm vm fm a pl day t u).2.2.2.2 := by
  obtain ⟨-, ⟨m0, m1, m2, m3, m4, m5, m6, m7, m8⟩, rfl, ⟨v0, v1⟩, hF, hT, hD, -⟩ := id h
  rw [F_X4_done, F_X5_done, ← may_eq h t a pl day, ← may_eq h u a pl day]
  simp only [may_nn]
  by_cases c1 : F_X4_may zx vx fx t a pl day = 0
  · rw [if_pos c1, if_pos c1]
    obtain ⟨t1, t2⟩ := may_tr vm fm c1
    rw [F_X4_needsTwo, F_X4_holds, v0]
    by_cases c2 : (((vm 1) >>> (a &&& 31)) &&& 1) = 0
    · rw [if_pos c2, if_pos rfl, if_pos c2]; exact ⟨rfl, h⟩
    · rw [if_neg c2, if_neg (show ¬ (1 : Int32) = 0 by decide), if_neg c2]
      by_cases c3 : F_X4_may zx vx fx u a pl day = 0
      · rw [if_pos c3, if_pos c3]
        obtain ⟨u1, -⟩ := may_tr vm fm c3
        obtain ⟨i, hi, rfl⟩ := isT_nat m0 t1
        obtain ⟨j, hj, rfl⟩ := isT_nat m0 u1
        rw [nI_clamp (show i < 2 ^ 31 by omega), nI_clamp (show j < 2 ^ 31 by omega)]
        have sw : ∀ p q, p < zx 0 → q < zx 0 → (fx 2 p = nI q ↔ fm 2 q = nI p) := by
          intro p q hp hq
          constructor
          · intro e
            rcases hD.1 p hp with a | ⟨d, hd, a1, a2⟩
            · exact absurd (e.symm.trans a) (nI_m1 (by omega))
            · have := nI_inj12 (by omega) (by omega) (a1.symm.trans e)
              subst this; exact a2
          · intro e
            rcases hD.2 q hq with a | ⟨d, hd, a1, a2⟩
            · exact absurd (e.symm.trans a) (nI_m1 (by omega))
            · have := nI_inj12 (by omega) (by omega) (a1.symm.trans e)
              subst this; exact a2
        by_cases c4 : nI i = nI j
        · rw [if_pos c4, if_pos c4]; exact ⟨rfl, h⟩
        · rw [if_neg c4, if_neg c4]
          by_cases c5 : fx 2 i = nI j
          · rw [if_pos c5]
            by_cases c6 : fm 2 i = nI j
            · rw [if_pos c6]; exact ⟨rfl, h⟩
            · rw [if_neg c6, if_pos ((sw i j hi hj).mp c5)]; exact ⟨rfl, h⟩
          · rw [if_neg c5]
            by_cases c6 : fx 2 j = nI i
            · rw [if_pos c6, if_pos ((sw j i hj hi).mp c6)]; exact ⟨rfl, h⟩
            · rw [if_neg c6, if_neg (fun e => c6 ((sw j i hj hi).mpr e)), if_neg (fun e => c5 ((sw i j hi hj).mpr e))]
              exact ⟨rfl, h⟩
      · rw [if_neg c3, if_neg c3]; exact ⟨rfl, h⟩
  · rw [if_neg c1, if_neg c1]; exact ⟨rfl, h⟩
