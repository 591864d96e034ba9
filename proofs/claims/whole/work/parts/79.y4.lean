theorem dX_0 (n : Int32) : F_X4_digit n (nI 0) = (((((n / 26) / 26) / 26) / 26) / 26) - (((((n / 26) / 26) / 26) / 26) / 26) / 26 * 26 := rfl
theorem dP_0 : F_X5_power (5 - nI 0) = nI 11881376 ∧ F_X5_power (nI 5) = nI 11881376 := by decide +kernel
theorem dX_1 (n : Int32) : F_X4_digit n (nI 1) = ((((n / 26) / 26) / 26) / 26) - ((((n / 26) / 26) / 26) / 26) / 26 * 26 := rfl
theorem dP_1 : F_X5_power (5 - nI 1) = nI 456976 ∧ F_X5_power (nI 4) = nI 456976 := by decide +kernel
theorem dX_2 (n : Int32) : F_X4_digit n (nI 2) = (((n / 26) / 26) / 26) - (((n / 26) / 26) / 26) / 26 * 26 := rfl
theorem dP_2 : F_X5_power (5 - nI 2) = nI 17576 ∧ F_X5_power (nI 3) = nI 17576 := by decide +kernel
theorem dX_3 (n : Int32) : F_X4_digit n (nI 3) = ((n / 26) / 26) - ((n / 26) / 26) / 26 * 26 := rfl
theorem dP_3 : F_X5_power (5 - nI 3) = nI 676 ∧ F_X5_power (nI 2) = nI 676 := by decide +kernel
theorem dX_4 (n : Int32) : F_X4_digit n (nI 4) = (n / 26) - (n / 26) / 26 * 26 := rfl
theorem dP_4 : F_X5_power (5 - nI 4) = nI 26 ∧ F_X5_power (nI 1) = nI 26 := by decide +kernel
theorem dX_5 (n : Int32) : F_X4_digit n (nI 5) = n - n / 26 * 26 := rfl
theorem dP_5 : F_X5_power (5 - nI 5) = nI 1 ∧ F_X5_power (nI 0) = nI 1 := by decide +kernel
theorem d26 {a : Nat} (h : a < 2 ^ 31) : nI a / 26 = nI (a / 26) := pk_div (d := 26) h (by omega) (by omega)
theorem r26 {a : Nat} (h : a < 2 ^ 31) : nI a - nI a / 26 * 26 = nI (a % 26) := pk_rem (d := 26) h (by omega) (by omega)
/-- digit k of a number of six -/
def dg (N k : Nat) : Nat := N / 26 ^ (5 - k) % 26
theorem dX_eq {N k : Nat} (hN : N < 2 ^ 31) (hk : k < 6) : F_X4_digit (nI N) (nI k) = nI (dg N k) := by
  rcases (show k = 0 ∨ k = 1 ∨ k = 2 ∨ k = 3 ∨ k = 4 ∨ k = 5 by omega) with rfl | rfl | rfl | rfl | rfl | rfl
  · rw [dX_0, d26 (by omega), d26 (by omega), d26 (by omega), d26 (by omega), d26 (by omega), r26 (by omega)]; unfold dg; congr 1; try omega
  · rw [dX_1, d26 (by omega), d26 (by omega), d26 (by omega), d26 (by omega), r26 (by omega)]; unfold dg; congr 1; try omega
  · rw [dX_2, d26 (by omega), d26 (by omega), d26 (by omega), r26 (by omega)]; unfold dg; congr 1; try omega
  · rw [dX_3, d26 (by omega), d26 (by omega), r26 (by omega)]; unfold dg; congr 1; try omega
  · rw [dX_4, d26 (by omega), r26 (by omega)]; unfold dg; congr 1; try omega
  · rw [dX_5, r26 (by omega)]; unfold dg; congr 1; try omega
theorem dM_eq {N k : Nat} (hN : N < 2 ^ 31) (hk : k < 6) : F_X5_digit (nI N) (nI k) = nI (dg N k) := by
  rcases (show k = 0 ∨ k = 1 ∨ k = 2 ∨ k = 3 ∨ k = 4 ∨ k = 5 by omega) with rfl | rfl | rfl | rfl | rfl | rfl
  · rw [F_X5_digit, dP_0.1, pk_div hN (by omega) (by omega), r26 (by omega)]; unfold dg; congr 1
  · rw [F_X5_digit, dP_1.1, pk_div hN (by omega) (by omega), r26 (by omega)]; unfold dg; congr 1
  · rw [F_X5_digit, dP_2.1, pk_div hN (by omega) (by omega), r26 (by omega)]; unfold dg; congr 1
  · rw [F_X5_digit, dP_3.1, pk_div hN (by omega) (by omega), r26 (by omega)]; unfold dg; congr 1
  · rw [F_X5_digit, dP_4.1, pk_div hN (by omega) (by omega), r26 (by omega)]; unfold dg; congr 1
  · rw [F_X5_digit, dP_5.1, pk_div hN (by omega) (by omega), r26 (by omega)]; unfold dg; congr 1
theorem cv_eq {N : Nat} (hN : N < 2 ^ 31) (z : Nat → Nat) (v : Nat → Int32) (f : Nat → Nat → Int32) (i : Int32) : ∀ (m : Nat) (su : Int32) (k : Nat), F_X4_checkValue_L4 (nI N) m su k = F_X5_letter_L47 z v f (nI N) i m su k := by
  intro m
  induction m with
  | zero => intro su k; rw [F_X4_checkValue_L4, F_X5_letter_L47]
  | succ m ih =>
    intro su k
    rw [F_X4_checkValue_L4, F_X5_letter_L47]
    by_cases c : 6 ≤ k
    · rw [if_pos c, if_pos c]
    · rw [if_neg c, if_neg c, dX_eq hN (by omega), dM_eq hN (by omega)]
      exact ih _ _
theorem lt_100 {x : Int32} : (99999999 < x) ↔ (100000000 ≤ x) := by
  rw [Int32.le_iff_toInt_le, Int32.lt_iff_toInt_lt]
  have e1 : (99999999 : Int32).toInt = 99999999 := rfl
  have e2 : (100000000 : Int32).toInt = 100000000 := rfl
  omega
theorem nlt_le' {a b : Int32} : (¬ b ≤ a) ↔ a < b := by
  rw [Int32.lt_iff_toInt_lt, Int32.le_iff_toInt_le]; omega
theorem pu_letter {zx zm : Nat → Nat} {vx vm : Nat → Int32} {fx fm : Nat → Nat → Int32} (h : REL zx vx fx zm vm fm) (n i : Int32) : (F_X5_letter zm vm fm n i).2.1 = hc_letter (F_X4_letter zx vx fx n i).1 ∧ ((F_X4_letter zx vx fx n i).1 = 0 → (F_X4_letter zx vx fx n i).2.1 = (F_X5_letter zm vm fm n i).1) ∧ REL (F_X4_letter zx vx fx n i).2.2.1 (F_X4_letter zx vx fx n i).2.2.2.1 (F_X4_letter zx vx fx n i).2.2.2.2 (F_X5_letter zm vm fm n i).2.2.1 (F_X5_letter zm vm fm n i).2.2.2.1 (F_X5_letter zm vm fm n i).2.2.2.2 := by
  rw [F_X4_letter, F_X5_letter, F_X5_in, F_X5_in]
  by_cases c1 : n < 0
  · rw [if_pos c1, if_pos c1, if_pos rfl]; exact ⟨rfl, fun h9 => by simp at h9, h⟩
  rw [if_neg c1, if_neg c1]
  by_cases c2 : n ≤ 99999999
  · rw [if_pos c2, if_neg (nlt_le.mpr c2), if_neg (show ¬ (1 : Int32) = 0 by decide)]
    by_cases c3 : i < 0
    · rw [if_pos c3, if_pos c3, if_pos rfl]; exact ⟨rfl, fun h9 => by simp at h9, h⟩
    rw [if_neg c3, if_neg c3]
    obtain ⟨N, hN, rfl⟩ := nI_of c1
    obtain ⟨k, hk, rfl⟩ := nI_of c3
    have e7 : (nI k < 7) ↔ (k < 7) := nI_ltI (b := 7) hk (by omega)
    have e6 : (6 < nI k) ↔ (6 < k) := nI_ltI (a := 6) (by omega) hk
    have e6' : (6 ≤ nI k) ↔ (6 ≤ k) := nI_leI (a := 6) (by omega) hk
    have e6q : (nI k = 6) ↔ (k = 6) := nI_eq (b := 6) hk (by omega)
    by_cases c4 : k < 7
    · rw [if_pos (e7.mpr c4), if_neg (show ¬ 6 < nI k from fun e => by have := e6.mp e; omega), if_neg (show ¬ (1 : Int32) = 0 by decide)]
      by_cases c5 : k = 6
      · rw [if_pos (e6'.mpr (by omega)), if_pos (e6q.mpr c5)]
        refine ⟨rfl, fun _ => ?_, h⟩
        show 65 + F_X4_checkValue (nI N) = _
        rw [F_X4_checkValue, cv_eq hN zm vm fm (nI k)]
      · rw [if_neg (show ¬ 6 ≤ nI k from fun e => by have := e6'.mp e; omega), if_neg (show ¬ nI k = 6 from fun e => c5 (e6q.mp e))]
        refine ⟨rfl, fun _ => ?_, h⟩
        show 65 + F_X4_digit (nI N) (nI k) = 65 + F_X5_digit (nI N) (nI k)
        rw [dX_eq hN (by omega), dM_eq hN (by omega)]
    · rw [if_neg (fun e => c4 (e7.mp e)), if_pos (e6.mpr (by omega)), if_pos rfl]
      exact ⟨rfl, fun h9 => by simp at h9, h⟩
  · rw [if_neg c2, if_pos (nlt_le'.mp c2), if_pos rfl]; exact ⟨rfl, fun h9 => by simp at h9, h⟩
theorem uu_uu {α : Type} (g : Nat → α) (k : Nat) (x y : α) : uu (uu g k x) k y = uu g k y := by
  funext j
  unfold uu
  cases Nat.beq j k <;> rfl
theorem numb_congr {L M : Nat → Int32} : ∀ r, (∀ k, k < r → L k = M k) → numb L r = numb M r
  | 0, _ => rfl
  | r + 1, h => by rw [numb, numb, numb_congr r (fun k hk => h k (by omega)), h r (by omega)]
theorem rL.zero (L : Nat → Int32) : rL 0 0 L := ⟨fun k hk => absurd hk (by omega), rfl⟩
theorem rL.add {r : Nat} {nu x : Int32} {L : Nat → Int32} {a : Nat} (h : rL r nu L) (ha : a < 26) (hx : x = nI a) : rL (r + 1) (nu * 26 + x) (upd L r x) := by
  refine ⟨fun k hk => ?_, ?_⟩
  · by_cases e : k = r
    · subst e; rw [upds]; exact ⟨a, ha, hx⟩
    · rw [updn e]; exact h.1 k (by omega)
  · rw [numb, numb_congr (M := L) r (fun k hk => updn (by omega)), upds, h.2, hx, nI_clamp (by omega), show (26 : Int32) = nI 26 from rfl, pk_mul, nI_add]
theorem ck_6 {z : Nat → Nat} {v : Nat → Int32} {f : Nat → Nat → Int32} {x nu : Int32} (h4 : z 4 = 6) (h : rL 6 nu (f 16)) : ∃ N, N < 2 ^ 31 ∧ nu = nI N ∧ (F_X5_check_L69 z v f x (6 + 1) 0 0 0).1 = nI N ∧ F_X4_checkValue nu = (F_X5_check_L69 z v f x (6 + 1) 0 0 0).2 - (F_X5_check_L69 z v f x (6 + 1) 0 0 0).2 / 23 * 23 := by
  obtain ⟨hl, hn⟩ := h
  obtain ⟨a0, h0, e0⟩ := hl 0 (by omega)
  obtain ⟨a1, h1, e1⟩ := hl 1 (by omega)
  obtain ⟨a2, h2, e2⟩ := hl 2 (by omega)
  obtain ⟨a3, h3, e3⟩ := hl 3 (by omega)
  obtain ⟨a4, h4, e4⟩ := hl 4 (by omega)
  obtain ⟨a5, h5, e5⟩ := hl 5 (by omega)
  have u : ∀ k, k < 6 → upd (f 16) (z 4) (x - 65) k = f 16 k := fun k hk => updn (by omega)
  have eN : numb (f 16) 6 = ((((a0 * 26 + a1) * 26 + a2) * 26 + a3) * 26 + a4) * 26 + a5 := by
    simp only [numb, e0, e1, e2, e3, e4, e5, Nat.zero_mul, Nat.zero_add]
    rw [nI_clamp (by omega), nI_clamp (by omega), nI_clamp (by omega), nI_clamp (by omega), nI_clamp (by omega), nI_clamp (by omega)]
  obtain ⟨N, eQ⟩ : ∃ N, N = ((((a0 * 26 + a1) * 26 + a2) * 26 + a3) * 26 + a4) * 26 + a5 := ⟨_, rfl⟩
  have hN : N < 2 ^ 31 := by omega
  have en : nu = nI N := by rw [hn, eN, ← eQ]
  have g : F_X5_check_L69 z v f x (6 + 1) 0 0 0 = (nI N, nI (a0 + 2 * a1 + 3 * a2 + 4 * a3 + 5 * a4 + 6 * a5)) := by
    simp only [F_X5_check_L69]
    simp only [show ¬ 6 ≤ 0 by omega, show ¬ 6 ≤ 0 + 1 by omega, show ¬ 6 ≤ 0 + 1 + 1 by omega, show ¬ 6 ≤ 0 + 1 + 1 + 1 by omega, show ¬ 6 ≤ 0 + 1 + 1 + 1 + 1 by omega, show ¬ 6 ≤ 0 + 1 + 1 + 1 + 1 + 1 by omega, if_false, if_pos (show 6 ≤ 0 + 1 + 1 + 1 + 1 + 1 + 1 by omega)]
    rw [u 0 (by omega), u (0 + 1) (by omega), u (0 + 1 + 1) (by omega), u (0 + 1 + 1 + 1) (by omega), u (0 + 1 + 1 + 1 + 1) (by omega), u (0 + 1 + 1 + 1 + 1 + 1) (by omega)]
    rw [show (0 : Nat) + 1 = 1 from rfl, show (1 : Nat) + 1 = 2 from rfl, show (2 : Nat) + 1 = 3 from rfl, show (3 : Nat) + 1 = 4 from rfl, show (4 : Nat) + 1 = 5 from rfl, show (5 : Nat) + 1 = 6 from rfl]
    rw [e0, e1, e2, e3, e4, e5, show (5 : Nat) - 0 = 5 from rfl, show (5 : Nat) - 1 = 4 from rfl, show (5 : Nat) - 2 = 3 from rfl, show (5 : Nat) - 3 = 2 from rfl, show (5 : Nat) - 4 = 1 from rfl, show (5 : Nat) - 5 = 0 from rfl]
    rw [dP_0.2, dP_1.2, dP_2.2, dP_3.2, dP_4.2, dP_5.2, show (0 : Int32) = nI 0 from rfl]
    simp only [pk_mul, nI_add]
    refine Prod.ext ?_ ?_
    · show nI _ = nI _
      congr 1; omega
    · show nI _ = nI _
      congr 1; omega
  refine ⟨N, hN, en, by rw [g], ?_⟩
  rw [g, en, F_X4_checkValue]
  have s : F_X4_checkValue_L4 (nI N) (6 + 1) 0 0 = nI (a0 + 2 * a1 + 3 * a2 + 4 * a3 + 5 * a4 + 6 * a5) := by
    simp only [F_X4_checkValue_L4]
    simp only [show ¬ 6 ≤ 0 by omega, show ¬ 6 ≤ 0 + 1 by omega, show ¬ 6 ≤ 0 + 1 + 1 by omega, show ¬ 6 ≤ 0 + 1 + 1 + 1 by omega, show ¬ 6 ≤ 0 + 1 + 1 + 1 + 1 by omega, show ¬ 6 ≤ 0 + 1 + 1 + 1 + 1 + 1 by omega, if_false, if_pos (show 6 ≤ 0 + 1 + 1 + 1 + 1 + 1 + 1 by omega)]
    rw [dX_eq hN (show 0 < 6 by omega), dX_eq hN (show 0 + 1 < 6 by omega), dX_eq hN (show 0 + 1 + 1 < 6 by omega), dX_eq hN (show 0 + 1 + 1 + 1 < 6 by omega), dX_eq hN (show 0 + 1 + 1 + 1 + 1 < 6 by omega), dX_eq hN (show 0 + 1 + 1 + 1 + 1 + 1 < 6 by omega)]
    rw [show (0 : Int32) = nI 0 from rfl]
    simp only [pk_mul, nI_add]
    congr 1
    have q0 : dg N 0 = a0 := by show N / 11881376 % 26 = a0; omega
    have q1 : dg N (0 + 1) = a1 := by show N / 456976 % 26 = a1; omega
    have q2 : dg N (0 + 1 + 1) = a2 := by show N / 17576 % 26 = a2; omega
    have q3 : dg N (0 + 1 + 1 + 1) = a3 := by show N / 676 % 26 = a3; omega
    have q4 : dg N (0 + 1 + 1 + 1 + 1) = a4 := by show N / 26 % 26 = a4; omega
    have q5 : dg N (0 + 1 + 1 + 1 + 1 + 1) = a5 := by show N / 1 % 26 = a5; omega
    rw [q0, q1, q2, q3, q4, q5]; omega
  rw [s]
theorem pu_check {zx zm : Nat → Nat} {vx vm : Nat → Int32} {fx fm : Nat → Nat → Int32} (h : REL zx vx fx zm vm fm) (x : Int32) : (F_X4_check zx vx fx x).1 = (F_X5_check zm vm fm x).1 ∧ REL (F_X4_check zx vx fx x).2.1 (F_X4_check zx vx fx x).2.2.1 (F_X4_check zx vx fx x).2.2.2 (F_X5_check zm vm fm x).2.2.1 (F_X5_check zm vm fm x).2.2.2.1 (F_X5_check zm vm fm x).2.2.2.2 := by
  obtain ⟨⟨x0, x1, x2, x3, x4, x5, x6⟩, ⟨m0, m1, m2, m3, m4, m5, m6, m7, m8⟩, rfl, ⟨v0, v1⟩, hF, hT, hD, hG, hB, hR, hM, hL⟩ := id h
  have hno : REL (uu zx 4 0) (uu vx 2 0) fx (uu zx 4 0) vm fm := ⟨⟨x0, x1, x2, x3, Nat.zero_le _, x5, x6⟩, ⟨m0, m1, m2, m3, Nat.zero_le _, m5, m6, m7, m8⟩, rfl, ⟨v0, v1⟩, hF, hT, hD, hG, hB, hR, hM, rL.zero _⟩
  rw [F_X4_check, F_X1_read, F_X5_check, F_X5_in]
  by_cases c1 : x < 65
  · rw [if_pos c1, if_pos c1, if_pos rfl]; exact ⟨rfl, hno⟩
  rw [if_neg c1, if_neg c1]
  by_cases c2 : x ≤ 90
  · rw [if_pos c2, if_neg (nlt_le.mpr c2), if_neg (show ¬ (1 : Int32) = 0 by decide)]
    obtain ⟨a, ha, ea⟩ : ∃ a, a < 26 ∧ x - 65 = nI a := by
      have e1 : (65 : Int32).toInt = 65 := rfl
      have e2 : (90 : Int32).toInt = 90 := rfl
      rw [Int32.lt_iff_toInt_lt] at c1
      rw [Int32.le_iff_toInt_le] at c2
      obtain ⟨y, hy, rfl⟩ := vp_in_of (x := x) (n := 91) (vp_in_iff.mpr (by omega)) (by omega)
      rw [nI_toInt (by omega)] at c1 c2
      exact ⟨y - 65, by omega, pk_sub (b := 65) (by omega)⟩
    by_cases c3 : 6 ≤ zx 4
    · have e4 : zx 4 = 6 := by omega
      rw [if_pos c3, if_pos (show 7 ≤ zx 4 + 1 by omega)]
      rw [e4] at hL
      obtain ⟨N, hN, g1, g2, g3⟩ := ck_6 (v := vm) (x := x) e4 hL
      rw [uu_uu, g2]
      have hno2 : REL (uu zx 4 0) (uu vx 2 0) fx (uu zx 4 0) (uu vm 2 (vm 2)) (uu fm 16 (upd (fm 16) (zx 4) (x - 65))) := ⟨hno.1, ⟨m0, m1, m2, m3, Nat.zero_le _, m5, m6, m7, m8⟩, rfl, ⟨v0, v1⟩, hF, hT, hD, hG, hB, hR, hM, rL.zero _⟩
      by_cases c4 : 99999999 < vx 2
      · rw [if_pos c4, if_pos (show 100000000 ≤ nI N by rw [← g1]; exact lt_100.mp c4)]
        exact ⟨rfl, hno2⟩
      · rw [if_neg c4, if_neg (show ¬ 100000000 ≤ nI N by rw [← g1]; exact fun e => c4 (lt_100.mpr e))]
        have e6 : upd (fm 16) (zx 4) (x - 65) 6 = x - 65 := by rw [e4]; exact upds
        rw [e6, ← g3]
        by_cases c5 : x - 65 = F_X4_checkValue (vx 2)
        · rw [if_pos c5, if_pos c5]
          refine ⟨rfl, hno.1, ⟨m0, m1, m2, m3, Nat.zero_le _, m5, m6, m7, m8⟩, rfl, ⟨v0, ?_⟩, hF, hT, hD, hG, hB, hR, hM, rL.zero _⟩
          exact g1
        · rw [if_neg c5, if_neg c5]; exact ⟨rfl, hno2⟩
    · rw [if_neg c3, if_neg (show ¬ 7 ≤ zx 4 + 1 by omega)]
      refine ⟨rfl, ⟨x0, x1, x2, x3, by show zx 4 + 1 ≤ 6; omega, x5, x6⟩, ⟨m0, m1, m2, m3, by show zx 4 + 1 ≤ 6; omega, m5, m6, m7, m8⟩, rfl, ⟨v0, v1⟩, hF, hT, hD, hG, hB, hR, hM, ?_⟩
      exact hL.add ha ea
  · rw [if_neg c2, if_pos (nlt_le'.mp c2), if_pos rfl]; exact ⟨rfl, hno⟩
def zX0 : Nat → Nat := fun _ => 0
def vX0 : Nat → Int32 := uu (fun _ => 0) 1 (-1)
def fX0 : Nat → Nat → Int32 := uu (uu (uu (fun _ => fun _ => 0) 2 (fillF (fun _ => 0) (-1) 12)) 3 (fillF (fun _ => 0) (-1) 12)) 4 (fillF (fun _ => 0) (-1) 12)
def vM0 : Nat → Int32 := uu (fun _ => 0) 2 (-1)
def fM0 : Nat → Nat → Int32 := fun _ => fun _ => 0
theorem pu_init : REL zX0 vX0 fX0 zX0 vM0 fM0 := by
  refine ⟨⟨Nat.zero_le _, Nat.zero_le _, Nat.zero_le _, Nat.zero_le _, Nat.zero_le _, fun _ => zB_0, fun _ => zB_0⟩, ⟨Nat.zero_le _, Nat.zero_le _, Nat.zero_le _, Nat.zero_le _, Nat.zero_le _, fun _ => zB_0, fun _ => zB_0, fun k hk => absurd hk (Nat.not_lt_zero k), fun k hk => absurd hk (Nat.not_lt_zero k)⟩, rfl, ⟨rfl, rfl⟩, ⟨⟨rfl, rfl⟩, ⟨rfl, rfl, rfl, rfl, rfl⟩, ⟨rfl, rfl, rfl, rfl⟩, ⟨rfl, rfl, rfl⟩⟩, ⟨fun k hk => absurd hk (Nat.not_lt_zero k), fun k h1 _ => ?_⟩, ⟨fun k hk => absurd hk (Nat.not_lt_zero k), fun k hk => absurd hk (Nat.not_lt_zero k)⟩, ⟨fun _ _ => rfl, fun k i hb => ?_, ⟨fun _ => 0, fun k i hb => ?_⟩, fun _ => bits_0⟩, ⟨fun _ => ⟨0, by omega, rfl⟩, ⟨0, by omega, rfl⟩⟩, fun k hk => absurd hk (Nat.not_lt_zero k), fun k hk => absurd hk (Nat.not_lt_zero k), rL.zero _⟩
  · have e : fillF (fun _ => 0) (-1) 12 k = -1 := by unfold fillF; rw [if_pos h1]
    exact ⟨e, e, e⟩
  · exact absurd hb (by rw [show fM0 0 k = 0 from rfl, b_0]; decide)
  · exact absurd hb (by rw [show fM0 0 k = 0 from rfl, b_0]; decide)
