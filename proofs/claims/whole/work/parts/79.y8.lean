theorem on_L {z : Nat → Nat} {vx vm : Nat → Int32} {fx fm : Nat → Nat → Int32} (e1 : fx 14 = fm 13) (e2 : fx 15 = fm 14) (e3 : fx 16 = fm 15) (t day : Int32) : ∀ (n : Nat) (on gr : Int32) (k : Nat), F_X3_isOn_L8 z vx fx t day n on gr k = F_X5_isSuspended_L8 z vm fm t day n gr on k := by
  intro n
  induction n with
  | zero => intro on gr k; rw [F_X3_isOn_L8, F_X5_isSuspended_L8]
  | succ n ih =>
    intro on gr k
    rw [F_X3_isOn_L8, F_X5_isSuspended_L8, e1, e2, e3]
    simp only [ih]
theorem on_eq {z : Nat → Nat} {vx vm : Nat → Int32} {fx fm : Nat → Nat → Int32} (hF : rF fx fm) (t day : Int32) : F_X3_isOn z vx fx t day = F_X5_isSuspended z vm fm t day := by
  rw [F_X3_isOn, F_X5_isSuspended]
  exact on_L hF.2.2.2.1 hF.2.2.2.2.1 hF.2.2.2.2.2 t day _ _ _ _
theorem ended_eq {z : Nat → Nat} {vx vm : Nat → Int32} {fx fm : Nat → Nat → Int32} (hz : z 0 ≤ 12) (hT : rT (z 0) (fx 2) (fx 3) (fx 4) (fm 2) (fm 3)) {k : Nat} (hk : k < z 0) (day : Int32) : F_X4_isEnded z vx fx (nI k) day = F_X5_isEnded z vm fm (nI k) day := by
  rw [F_X4_isEnded, F_X5_isEnded, nI_clamp (show k < 2 ^ 31 by omega)]
  obtain ⟨-, e1, e2⟩ := hT.1 k hk
  rw [e1]
  rcases e2 with e | e
  · rw [if_pos e, if_pos (by rw [e]; decide)]
  · rw [if_neg e, if_neg (show ¬ fm 3 k = -1 from fun a => e (by rw [a]; decide))]
theorem al_L {z : Nat → Nat} {v : Nat → Int32} {f : Nat → Nat → Int32} {day : Int32} (hz : z 0 ≤ 12) (i : Nat) : ∀ (n : Nat) (al : Int32) (k : Nat), z 0 < k + n → (bt (F_X4_aliveOn_L4 z v f day n al k) i = true ↔ bt al i = true ∨ (k ≤ i ∧ i < z 0 ∧ F_X4_isEnded z v f (nI i) day = 0 ∧ F_X3_isOn z v f (nI i) day = 0)) := by
  intro n
  induction n with
  | zero =>
    intro al k h
    rw [F_X4_aliveOn_L4]
    exact ⟨Or.inl, fun h => h.elim id (fun ⟨h1, h2, _⟩ => absurd h2 (by omega))⟩
  | succ n ih =>
    intro al k h
    rw [F_X4_aliveOn_L4]
    by_cases c : z 0 ≤ k
    · rw [if_pos c]
      exact ⟨Or.inl, fun h => h.elim id (fun ⟨h1, h2, _⟩ => absurd h2 (by omega))⟩
    · rw [if_neg c]
      have skip : (¬ (F_X4_isEnded z v f (nI k) day = 0 ∧ F_X3_isOn z v f (nI k) day = 0)) → (bt (F_X4_aliveOn_L4 z v f day n al (k + 1)) i = true ↔ bt al i = true ∨ (k ≤ i ∧ i < z 0 ∧ F_X4_isEnded z v f (nI i) day = 0 ∧ F_X3_isOn z v f (nI i) day = 0)) := by
        intro hn
        rw [ih al (k + 1) (by omega)]
        constructor
        · rintro (a | ⟨h1, h2⟩)
          · exact Or.inl a
          · exact Or.inr ⟨by omega, h2⟩
        · rintro (a | ⟨h1, h2, h3⟩)
          · exact Or.inl a
          · by_cases e : i = k
            · subst e; exact absurd h3 hn
            · exact Or.inr ⟨by omega, h2, h3⟩
      by_cases c1 : F_X4_isEnded z v f (nI k) day = 0
      · rw [if_pos c1]
        by_cases c2 : F_X3_isOn z v f (nI k) day = 0
        · rw [if_pos c2, ih _ (k + 1) (by omega), bo, b_bit (by omega)]
          constructor
          · rintro ((a | a) | ⟨h1, h2⟩)
            · exact Or.inl a
            · rw [a]; exact Or.inr ⟨Nat.le_refl _, by omega, c1, c2⟩
            · exact Or.inr ⟨by omega, h2⟩
          · rintro (a | ⟨h1, h2, h3⟩)
            · exact Or.inl (Or.inl a)
            · by_cases e : i = k
              · exact Or.inl (Or.inr e)
              · exact Or.inr ⟨by omega, h2, h3⟩
        · rw [if_neg c2]; exact skip (fun a => c2 a.2)
      · rw [if_neg c1]; exact skip (fun a => c1 a.1)
theorem al_bt {z : Nat → Nat} {v : Nat → Int32} {f : Nat → Nat → Int32} {day : Int32} (hz : z 0 ≤ 12) (i : Nat) : bt (F_X4_aliveOn z v f day) i = true ↔ i < z 0 ∧ F_X4_isEnded z v f (nI i) day = 0 ∧ F_X3_isOn z v f (nI i) day = 0 := by
  rw [F_X4_aliveOn, al_L hz i _ _ _ (by omega), b_0]
  constructor
  · rintro (h | ⟨_, h2⟩)
    · exact Bool.noConfusion h
    · exact h2
  · exact fun h2 => Or.inr ⟨Nat.zero_le _, h2⟩
theorem isAl {z : Nat → Nat} {v : Nat → Int32} {f : Nat → Nat → Int32} {t day : Int32} : (¬ F_X5_isAlive z v f t day = 0) ↔ F_X5_isEnded z v f t day = 0 ∧ F_X5_isSuspended z v f t day = 0 := by
  rw [F_X5_isAlive]
  by_cases c1 : F_X5_isEnded z v f t day = 0
  · rw [if_pos c1]
    by_cases c2 : F_X5_isSuspended z v f t day = 0
    · rw [if_pos c2]; exact ⟨fun _ => ⟨c1, c2⟩, fun _ => by decide⟩
    · rw [if_neg c2]; exact ⟨fun a => absurd rfl a, fun a => absurd a.2 c2⟩
  · rw [if_neg c1]; exact ⟨fun a => absurd rfl a, fun a => absurd a.1 c1⟩
/-- alive: the class's set and the reference's word -/
theorem al_eq {z : Nat → Nat} {vx vm : Nat → Int32} {fx fm : Nat → Nat → Int32} {day : Int32} (hz : z 0 ≤ 12) (hF : rF fx fm) (hT : rT (z 0) (fx 2) (fx 3) (fx 4) (fm 2) (fm 3)) (i : Nat) : bt (F_X4_aliveOn z vx fx day) i = true ↔ i < z 0 ∧ ¬ F_X5_isAlive z vm fm (nI i) day = 0 := by
  rw [al_bt hz, isAl, on_eq (vm := vm) hF]
  constructor
  · rintro ⟨h1, h2, h3⟩
    rw [ended_eq (vm := vm) hz hT h1] at h2
    exact ⟨h1, h2, h3⟩
  · rintro ⟨h1, h2, h3⟩
    rw [← ended_eq (vx := vx) hz hT h1] at h2
    exact ⟨h1, h2, h3⟩
theorem hal_day {z : Nat → Nat} {vx vm : Nat → Int32} {fx fm : Nat → Nat → Int32} {day : Int32} (hz : z 0 ≤ 12) (hF : rF fx fm) (hT : rT (z 0) (fx 2) (fx 3) (fx 4) (fm 2) (fm 3)) (hd : ¬ day < 0) : ∀ i, i < z 0 → (bt (F_X4_aliveOn z vx fx day) i = true ↔ alM z vm fm day i) := by
  intro i hi
  rw [al_eq (vm := vm) hz hF hT]
  constructor
  · exact fun a => Or.inr a.2
  · rintro (a | a)
    · exact absurd (show day < 0 by rw [a]; decide) hd
    · exact ⟨hi, a⟩
theorem hal_every {z : Nat → Nat} {vx vm : Nat → Int32} {fx fm : Nat → Nat → Int32} (hz : z 0 ≤ 12) : ∀ i, i < z 0 → (bt (F_X4_everyTrader z vx fx) i = true ↔ alM z vm fm (-1) i) := by
  intro i hi
  rw [F_X4_everyTrader, b_every hz]
  exact ⟨fun _ => Or.inl rfl, fun _ => hi⟩
theorem rG_add {n : Nat} {D : Nat → Int32} (h : rG n D) (hn : n ≤ 12) {i j : Nat} (hi : i < n) (hj : j < n) (hij : i ≠ j) (hb : cnt (bt (D i)) 12 < 4) {rc : Nat → Nat → Prop} (r1 : rc i i) (r2 : ∀ k a, bt (D k) a = true → rc a i → rc k i) (r3 : ¬ rc j i) : rG n (upd D i (D i ||| (1 <<< (nI j &&& 31)))) := by
  obtain ⟨g1, g2, ⟨rk, g3⟩, g4⟩ := h
  have q : ∀ k a, bt (upd D i (D i ||| (1 <<< (nI j &&& 31))) k) a = true → bt (D k) a = true ∨ (k = i ∧ a = j) := by
    intro k a e
    by_cases c : k = i
    · subst c
      rw [upds, bo, b_one (by omega)] at e
      exact e.elim Or.inl (fun e => Or.inr ⟨rfl, e⟩)
    · rw [updn c] at e; exact Or.inl e
  refine ⟨fun k hk => ?_, fun k a e => ?_, ⟨fun x => @ite Nat (rc x i) (Classical.propDecidable _) (rk x + rk j + 1) (rk x), fun k a e => ?_⟩, fun k => ?_⟩
  · rw [updn (show k ≠ i by omega)]; exact g1 k hk
  · rcases q k a e with e | ⟨rfl, rfl⟩
    · exact g2 k a e
    · exact ⟨hj, fun e => hij e.symm⟩
  · show @ite Nat (rc a i) (Classical.propDecidable _) (rk a + rk j + 1) (rk a) < @ite Nat (rc k i) (Classical.propDecidable _) (rk k + rk j + 1) (rk k)
    rcases q k a e with e | ⟨rfl, rfl⟩
    · have g := g3 k a e
      rcases Classical.em (rc a i) with c | c
      · rw [if_pos c, if_pos (r2 k a e c)]; omega
      · rw [if_neg c]
        rcases Classical.em (rc k i) with d | d
        · rw [if_pos d]; omega
        · rw [if_neg d]; exact g
    · rw [if_neg r3, if_pos r1]; omega
  · by_cases c : k = i
    · subst c
      rw [upds, bits_cnt]
      have e := cnt_add1 (p := bt (D k)) (q := bt (D k ||| (1 <<< (nI j &&& 31)))) (u := j) (fun x hx => by rw [bo, b_one (by omega)] at hx; exact hx) 12
      rw [if_pos (show j < 12 by omega)] at e
      exact nI_le (b := 4) (by omega) (by omega)
    · rw [updn c]; exact g4 k
theorem pu_group {zx zm : Nat → Nat} {vx vm : Nat → Int32} {fx fm : Nat → Nat → Int32} (h : REL zx vx fx zm vm fm) (t u : Int32) : (F_X5_group zm vm fm t u).2.1 = hc_group (F_X4_group zx vx fx t u).1 ∧ ((F_X4_group zx vx fx t u).1 = 0 → (F_X4_group zx vx fx t u).2.1 = (F_X5_group zm vm fm t u).1) ∧ REL (F_X4_group zx vx fx t u).2.2.1 (F_X4_group zx vx fx t u).2.2.2.1 (F_X4_group zx vx fx t u).2.2.2.2 (F_X5_group zm vm fm t u).2.2.1 (F_X5_group zm vm fm t u).2.2.2.1 (F_X5_group zm vm fm t u).2.2.2.2 := by
  obtain ⟨⟨x0, x1, x2, x3, x4, x5, x6⟩, ⟨m0, m1, m2, m3, m4, m5, m6, m7, m8⟩, rfl, hv, hF, hT, hD, hG, hB, hR, hM, hL⟩ := id h
  rw [F_X4_group, F_X5_group]
  simp only [eqTwo zx vx vm fx fm]
  by_cases c1 : F_X5_areTwo zx vm fm t u = 0
  · rw [if_pos c1, if_pos c1]; exact ⟨rfl, fun h9 => by simp at h9, h⟩
  rw [if_neg c1, if_neg c1]
  obtain ⟨i, j, hi, hj, hij, rfl, rfl⟩ := two_nat m0 c1
  rw [nI_clamp (show i < 2 ^ 31 by omega)]
  have f0 : fx 0 = fm 0 := hF.1.1
  have hGx : rG (zx 0) (fx 0) := by rw [f0]; exact hG
  have low : ∀ k, 12 ≤ k → ¬ bt (fm 0 i) k = true := fun k hk e => by have := (hG.2.1 i k e).1; omega
  have hring : bt (F_X5_reached zx vm fm (nI j) (-1)) i = true ↔ bt (F_X4_groupsAmong zx vx fx (nI j) (F_X4_everyTrader zx vx fx)) i = true := by
    rw [reach_eq (v := vx) (f := fx) m0 hGx f0 (hal_every (vx := vx) (fx := fx) m0) hj]
    exact ⟨fun a => a.elim (fun e => absurd e hij) id, Or.inr⟩
  have eb : F_J6_bitCount_0f7a4 (fx 0 i) = F_X5_bits (fm 0 i) := by rw [f0, bits_cnt, bc_cnt low]
  rw [eb, f0]
  by_cases c2 : bt (fm 0 i) j = true
  · rw [if_neg (show ¬ F_X4_holds (fm 0 i) (nI j) = 0 from fun e => (holds_bt (by omega) _).mp e c2), if_pos ((tst_bt (by omega) _).mpr c2)]
    exact ⟨rfl, fun _ => rfl, h⟩
  rw [if_pos ((holds_bt (by omega) _).mpr c2), if_neg (show ¬ (((fm 0 i) >>> ((nI j) &&& 31)) &&& 1) = 1 from fun e => c2 ((tst_bt (by omega) _).mp e))]
  by_cases c3 : bt (F_X5_reached zx vm fm (nI j) (-1)) i = true
  · rw [if_neg (show ¬ F_X4_holds (F_X4_groupsAmong zx vx fx (nI j) (F_X4_everyTrader zx vx fx)) (nI i) = 0 from fun e => (holds_bt (by omega) _).mp e (hring.mp c3)), if_pos (show (((F_X5_reached zx vm fm (nI j) (-1)) >>> ((nI i) &&& 31)) &&& 1) = 1 from (tst_bt (by omega) _).mpr c3)]
    by_cases c4 : F_X5_bits (fm 0 i) = 4
    · rw [if_pos c4]; exact ⟨rfl, fun _ => rfl, h⟩
    · rw [if_neg c4]; exact ⟨rfl, fun _ => rfl, h⟩
  rw [if_pos (show F_X4_holds (F_X4_groupsAmong zx vx fx (nI j) (F_X4_everyTrader zx vx fx)) (nI i) = 0 from (holds_bt (by omega) _).mpr (fun e => c3 (hring.mpr e))), if_neg (show ¬ (((F_X5_reached zx vm fm (nI j) (-1)) >>> ((nI i) &&& 31)) &&& 1) = 1 from fun e => c3 ((tst_bt (by omega) _).mp e))]
  have hb4 := hG.2.2.2 i
  have hle := cnt_le (bt (fm 0 i)) 12
  rw [bits_cnt] at hb4 ⊢
  have hb5 : cnt (bt (fm 0 i)) 12 ≤ 4 := (nI_leI (b := 4) (by omega) (by omega)).mp hb4
  by_cases c4 : cnt (bt (fm 0 i)) 12 = 4
  · rw [c4, if_neg (show ¬ nI 4 < 4 by decide), if_pos (show nI 4 = 4 from rfl)]
    exact ⟨rfl, fun _ => rfl, h⟩
  · rw [if_pos (show nI (cnt (bt (fm 0 i)) 12) < 4 from nI_lt (b := 4) (by omega) (by omega)), if_neg (show ¬ nI (cnt (bt (fm 0 i)) 12) = 4 from fun e => c4 ((nI_eq (b := 4) (by omega) (by omega)).mp e))]
    refine ⟨rfl, fun _ => rfl, ⟨x0, x1, x2, x3, x4, x5, x6⟩, ⟨m0, m1, m2, m3, m4, m5, m6, m7, m8⟩, rfl, hv, ⟨⟨?_, hF.1.2⟩, hF.2⟩, hT, hD, ?_, hB, hR, hM, hL⟩
    · rfl
    · have halE := hal_every (z := zx) (vx := vx) (vm := vm) (fx := fx) (fm := fm) m0
      show rG (zx 0) (upd (fm 0) i (fm 0 i ||| (1 <<< (nI j &&& 31))))
      refine rG_add hG m0 hi hj hij (by omega) (rc := fun a b => bt (F_X5_reached zx vm fm (nI a) (-1)) b = true) ?_ (fun k a e ha => ?_) c3
      · exact (reach_eq (v := vx) (f := fx) m0 hGx f0 halE hi i).mpr (Or.inl rfl)
      · have hk : k < zx 0 := Classical.byContradiction (fun c => by
          rw [hG.1 k (by omega), b_0] at e
          exact Bool.noConfusion e)
        have hka := (hG.2.1 k a e).1
        have cl := reach_clo (v := vx) (f := fx) m0 hGx f0 halE hk
        refine reach_min (v := vx) (f := fx) m0 hGx f0 halE hka (C := fun b => bt (F_X5_reached zx vm fm (nI k) (-1)) b = true) ?_ cl ha
        refine cl k a hk ((reach_eq (v := vx) (f := fx) m0 hGx f0 halE hk k).mpr (Or.inl rfl)) (by rw [f0]; exact e) ?_
        exact (b_every m0 a).mpr hka
