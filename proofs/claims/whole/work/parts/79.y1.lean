/-! PURE: what holds between the class's state and the reference's -/
def rD (n : Nat) (dx dm : Nat → Int32) : Prop := (∀ k, k < n → dx k = -1 ∨ ∃ d, d < n ∧ dx k = nI d ∧ dm d = nI k) ∧ (∀ d, d < n → dm d = -1 ∨ ∃ k, k < n ∧ dm d = nI k ∧ dx k = nI d)
def rT (n : Nat) (x2 x3 x4 m2 m3 : Nat → Int32) : Prop := (∀ k, k < n → x3 k = m2 k ∧ x4 k = m3 k ∧ (m3 k = -1 ∨ ¬ m3 k < 0)) ∧ (∀ k, k < 12 → n ≤ k → x2 k = -1 ∧ x3 k = -1 ∧ x4 k = -1)
def rG (n : Nat) (D : Nat → Int32) : Prop := (∀ k, n ≤ k → D k = 0) ∧ (∀ k i, bt (D k) i = true → i < n ∧ i ≠ k) ∧ (∃ rk : Nat → Nat, ∀ k i, bt (D k) i = true → rk i < rk k) ∧ (∀ k, F_X5_bits (D k) ≤ 4)
def rB (B : Nat → Int32) (w : Int32) : Prop := (∀ k, ∃ n, n < 256 ∧ B k = nI n) ∧ ∃ n, n < 256 ∧ w = nI n
def rR (n r : Nat) (a b p : Nat → Int32) : Prop := ∀ k, k < r → (∃ t, t < n ∧ a k = nI t) ∧ (∃ c, c < 8 ∧ b k = nI c) ∧ (p k = -1 ∨ ∃ q, q < 8 ∧ p k = nI q)
def rM (n r : Nat) (g t : Nat → Int32) : Prop := ∀ k, k < r → (∃ i, i < n ∧ g k = nI i) ∧ (∃ i, i < n ∧ t k = nI i)
def numb (L : Nat → Int32) : Nat → Nat
  | 0 => 0
  | k + 1 => numb L k * 26 + (L k).toNatClampNeg
def rL (r : Nat) (nu : Int32) (L : Nat → Int32) : Prop := (∀ k, k < r → ∃ a, a < 26 ∧ L k = nI a) ∧ nu = nI (numb L r)
def rF (fx fm : Nat → Nat → Int32) : Prop := (fx 0 = fm 0 ∧ fx 1 = fm 1) ∧ (fx 5 = fm 4 ∧ fx 6 = fm 5 ∧ fx 7 = fm 6 ∧ fx 8 = fm 7 ∧ fx 9 = fm 8) ∧ (fx 10 = fm 9 ∧ fx 11 = fm 10 ∧ fx 12 = fm 11 ∧ fx 13 = fm 12) ∧ (fx 14 = fm 13 ∧ fx 15 = fm 14 ∧ fx 16 = fm 15)
/-- what holds between the two states, beside each one's own bounds -/
def REL1 (zx : Nat → Nat) (vx : Nat → Int32) (fx : Nat → Nat → Int32) (zm : Nat → Nat) (vm : Nat → Int32) (fm : Nat → Nat → Int32) : Prop :=
  zx = zm ∧ (vx 0 = vm 1 ∧ vx 1 = vm 2) ∧ rF fx fm ∧ rT (zm 0) (fx 2) (fx 3) (fx 4) (fm 2) (fm 3) ∧ rD (zm 0) (fx 2) (fm 2) ∧ rG (zm 0) (fm 0) ∧ rB (fm 1) (vm 1) ∧ rR (zm 0) (zm 1) (fm 4) (fm 5) (fm 6) ∧ rM (zm 0) (zm 2) (fm 9) (fm 10) ∧ rL (zm 4) (vx 2) (fm 16)
def REL (zx : Nat → Nat) (vx : Nat → Int32) (fx : Nat → Nat → Int32) (zm : Nat → Nat) (vm : Nat → Int32) (fm : Nat → Nat → Int32) : Prop := okX zx vx fx ∧ okM zm vm fm ∧ REL1 zx vx fx zm vm fm
theorem rR.mono {n n' r : Nat} {a b p : Nat → Int32} (h : rR n r a b p) (hn : n ≤ n') : rR n' r a b p := fun k hk => by
  obtain ⟨⟨t, h1, h2⟩, h3⟩ := h k hk
  exact ⟨⟨t, by omega, h2⟩, h3⟩
theorem rM.mono {n n' r : Nat} {g t : Nat → Int32} (h : rM n r g t) (hn : n ≤ n') : rM n' r g t := fun k hk => by
  obtain ⟨⟨i, h1, h2⟩, ⟨j, h3, h4⟩⟩ := h k hk
  exact ⟨⟨i, by omega, h2⟩, ⟨j, by omega, h4⟩⟩
theorem bits_0 : F_X5_bits 0 ≤ 4 := by decide +kernel
theorem rG.mono {n n' : Nat} {D : Nat → Int32} (h : rG n D) (hn : n ≤ n') : rG n' D :=
  ⟨fun k hk => h.1 k (by omega), fun k i hb => ⟨by have := (h.2.1 k i hb).1; omega, (h.2.1 k i hb).2⟩, h.2.2⟩
theorem updn {f : Nat → Int32} {k j : Nat} {x : Int32} (h : j ≠ k) : upd f k x j = f j := pk_un h
theorem upds {f : Nat → Int32} {k : Nat} {x : Int32} : upd f k x k = x := pk_us
theorem zB_upd {f : Nat → Int32} {i : Nat} {x : Int32} (h : ∀ k, zB (f k)) (hx : zB x) : ∀ k, zB (upd f i x k) := fun k => by
  by_cases e : k = i
  · subst e; rw [upds]; exact hx
  · rw [updn e]; exact h k
theorem eqAct (a : Int32) : F_X4_isAct a = F_X5_isEight a := by
  rw [F_X4_isAct, F_X5_isEight, F_X5_in]
  have e : (8 ≤ a) ↔ (7 < a) := by
    rw [Int32.le_iff_toInt_le, Int32.lt_iff_toInt_lt]
    have e1 : (8 : Int32).toInt = 8 := rfl
    have e2 : (7 : Int32).toInt = 7 := rfl
    omega
  simp only [e]
theorem eqPlace (a : Int32) : F_X4_isPlace a = F_X5_isEight a := by
  rw [← eqAct, F_X4_isPlace, F_X4_isAct]
theorem eqDay (a : Int32) : F_X4_isDay a = F_X5_isDay a := by
  rw [F_X4_isDay, F_X5_isDay, F_X5_in]
theorem eqTr (z : Nat → Nat) (v w : Nat → Int32) (f g : Nat → Nat → Int32) (t : Int32) : F_X4_isTrader z v f t = F_X5_isTrader z w g t := by
  rw [F_X4_isTrader, F_X5_isTrader]
theorem eqTwo (z : Nat → Nat) (v w : Nat → Int32) (f g : Nat → Nat → Int32) (t u : Int32) : F_X4_areTwoTraders z v f t u = F_X5_areTwo z w g t u := by
  rw [F_X4_areTwoTraders, F_X5_areTwo, eqTr z v w f g t, eqTr z v w f g u]
theorem isT_nat {z : Nat → Nat} {w : Nat → Int32} {g : Nat → Nat → Int32} {t : Int32} (hz : z 0 ≤ 12) (h : ¬ F_X5_isTrader z w g t = 0) : ∃ j, j < z 0 ∧ t = nI j := by
  rw [F_X5_isTrader] at h
  split at h
  · exact absurd rfl h
  · split at h
    · exact absurd rfl h
    · rename_i a1 a2
      exact vp_in_of (in_of a1 a2 (Nat.le_refl _) (by omega)) (by omega)
theorem is8_nat {a : Int32} (h : ¬ F_X5_isEight a = 0) : ∃ j, j < 8 ∧ a = nI j := by
  rw [← eqAct, F_X4_isAct] at h
  split at h
  · exact absurd rfl h
  · split at h
    · exact absurd rfl h
    · rename_i a1 a2
      exact vp_in_of (n := 8) (in_of (n := 8) a1 a2 (Nat.le_refl _) (by omega)) (by omega)
theorem day_nn {a : Int32} (h : ¬ F_X5_isDay a = 0) : ¬ a < 0 := by
  rw [F_X5_isDay, F_X5_in] at h
  split at h
  · exact absurd rfl h
  · assumption
theorem two_nat {z : Nat → Nat} {w : Nat → Int32} {g : Nat → Nat → Int32} {t u : Int32} (hz : z 0 ≤ 12) (h : ¬ F_X5_areTwo z w g t u = 0) : ∃ i j, i < z 0 ∧ j < z 0 ∧ i ≠ j ∧ t = nI i ∧ u = nI j := by
  rw [F_X5_areTwo] at h
  split at h
  · exact absurd rfl h
  · rename_i a1
    split at h
    · exact absurd rfl h
    · rename_i a2
      split at h
      · exact absurd rfl h
      · rename_i a3
        obtain ⟨i, hi, e1⟩ := isT_nat hz a1
        obtain ⟨j, hj, e2⟩ := isT_nat hz a2
        exact ⟨i, j, hi, hj, fun e => a3 (by rw [e1, e2, e]), e1, e2⟩
