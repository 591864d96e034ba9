theorem b_1 (i : Nat) : bt 1 i = decide (i = 0) := by
  rcases Nat.lt_or_ge i 32 with h | h
  · exact (by decide +kernel : ∀ i, i < 32 → bt 1 i = decide (i = 0)) i h
  · rw [b_big h, decide_eq_false (by omega)]
theorem b_one {k : Nat} (hk : k < 32) (i : Nat) : bt (1 <<< (nI k &&& 31)) i = true ↔ i = k := by
  rcases Nat.lt_or_ge i 32 with h | h
  · rw [b_shl k hk 1 h, b_1, Bool.and_eq_true, decide_eq_true_iff, decide_eq_true_iff]
    omega
  · rw [b_big h]
    exact ⟨fun h => Bool.noConfusion h, fun h => by omega⟩
theorem b_bit {k : Nat} (hk : k < 32) (i : Nat) : bt (F_X4_bit (nI k)) i = true ↔ i = k := b_one hk i
theorem bo (x y : Int32) (i : Nat) : bt (x ||| y) i = true ↔ bt x i = true ∨ bt y i = true := by rw [b_or, Bool.or_eq_true]
theorem ba (x y : Int32) (i : Nat) : bt (x &&& y) i = true ↔ bt x i = true ∧ bt y i = true := by rw [b_and, Bool.and_eq_true]
theorem low_bt (y : Int32) : (y &&& 1) = 1 ↔ bt y 0 = true := by
  have h := b_and y 1 0
  rw [b_1, decide_eq_true rfl, Bool.and_true] at h
  rw [← h]
  rcases and1 y with e | e <;> rw [e]
  · exact ⟨fun h => absurd h (by decide), fun h => absurd h (by rw [b_0]; decide)⟩
  · exact ⟨fun _ => by decide +kernel, fun _ => rfl⟩
theorem tst_bt {k : Nat} (hk : k < 32) (x : Int32) : ((x >>> (nI k &&& 31)) &&& 1) = 1 ↔ bt x k = true := by
  rw [low_bt, b_sshr k hk x (by omega), if_pos (by omega), Nat.add_zero]
theorem holds_bt {k : Nat} (hk : k < 32) (x : Int32) : F_X4_holds x (nI k) = 0 ↔ ¬ bt x k = true := by
  rw [holds_eq, ← tst_bt hk x]
  by_cases c : ((x >>> (nI k &&& 31)) &&& 1) = 1
  · rw [if_pos c]; exact ⟨fun h => absurd h (by decide), fun h => absurd c h⟩
  · rw [if_neg c]; exact ⟨fun _ => c, fun _ => rfl⟩
theorem b_every0 : ∀ n, n < 13 → ∀ i, i < 32 → bt (F_X4_bit (nI n) - 1) i = decide (i < n) := by decide +kernel
theorem b_every {n : Nat} (hn : n ≤ 12) (i : Nat) : bt (F_X4_bit (nI n) - 1) i = true ↔ i < n := by
  rcases Nat.lt_or_ge i 32 with h | h
  · rw [b_every0 n (by omega) i h, decide_eq_true_iff]
  · rw [b_big h]
    exact ⟨fun h => Bool.noConfusion h, fun h => by omega⟩
theorem zero_bt (x : Int32) : x = 0 ↔ ∀ i, ¬ bt x i = true :=
  ⟨fun h i => by rw [h, b_0]; decide, fun h => b_ext (fun i _ => by rw [b_0]; exact Bool.eq_false_iff.mpr (h i))⟩
/-! counting -/
def cnt (p : Nat → Bool) : Nat → Nat
  | 0 => 0
  | k + 1 => cnt p k + if p k = true then 1 else 0
theorem cnt_le (p : Nat → Bool) : ∀ n, cnt p n ≤ n
  | 0 => Nat.le_refl _
  | n + 1 => by
    have := cnt_le p n
    rw [cnt]
    split <;> omega
theorem cnt_mono {p q : Nat → Bool} (h : ∀ i, p i = true → q i = true) : ∀ n, cnt p n ≤ cnt q n
  | 0 => Nat.le_refl _
  | n + 1 => by
    have := cnt_mono h n
    rw [cnt, cnt]
    by_cases c : p n = true
    · rw [if_pos c, if_pos (h n c)]; omega
    · rw [if_neg c]; omega
theorem cnt_lt {p q : Nat → Bool} (h : ∀ i, p i = true → q i = true) {j : Nat} (hp : ¬ p j = true) (hq : q j = true) : ∀ n, j < n → cnt p n < cnt q n
  | 0, hj => absurd hj (by omega)
  | n + 1, hj => by
    rw [cnt, cnt]
    by_cases e : j = n
    · subst e
      rw [if_neg hp, if_pos hq]
      have := cnt_mono h j
      omega
    · have := cnt_lt h hp hq n (by omega)
      by_cases c : p n = true
      · rw [if_pos c, if_pos (h n c)]; omega
      · rw [if_neg c]; omega
theorem cnt_full {p : Nat → Bool} : ∀ n, n ≤ cnt p n → ∀ i, i < n → p i = true
  | 0, _, i, hi => absurd hi (by omega)
  | n + 1, h, i, hi => by
    have h2 := cnt_le p n
    rw [cnt] at h
    by_cases c : p n = true
    · rw [if_pos c] at h
      by_cases e : i = n
      · subst e; exact c
      · exact cnt_full n (by omega) i (by omega)
    · rw [if_neg c] at h; omega
theorem cnt_pos {p : Nat → Bool} {t : Nat} (h : p t = true) : ∀ n, t < n → 1 ≤ cnt p n
  | 0, ht => absurd ht (by omega)
  | n + 1, ht => by
    rw [cnt]
    by_cases e : t = n
    · subst e; rw [if_pos h]; omega
    · have := cnt_pos h n (by omega); omega
theorem cnt_congr {p q : Nat → Bool} : ∀ n, (∀ i, i < n → (p i = true ↔ q i = true)) → cnt p n = cnt q n
  | 0, _ => rfl
  | n + 1, h => by
    rw [cnt, cnt, cnt_congr n (fun i hi => h i (by omega))]
    by_cases c : p n = true
    · rw [if_pos c, if_pos ((h n (by omega)).mp c)]
    · rw [if_neg c, if_neg (fun e => c ((h n (by omega)).mpr e))]
theorem cnt_add1 {p q : Nat → Bool} {u : Nat} (h : ∀ i, q i = true → p i = true ∨ i = u) : ∀ n, cnt q n ≤ cnt p n + if u < n then 1 else 0
  | 0 => by rw [cnt]; omega
  | n + 1 => by
    have ih := cnt_add1 h n
    rw [cnt, cnt]
    by_cases c : q n = true
    · rw [if_pos c]
      rcases h n c with e | e
      · rw [if_pos e]
        by_cases d : u < n
        · rw [if_pos d] at ih; rw [if_pos (show u < n + 1 by omega)]; omega
        · rw [if_neg d] at ih; omega
      · rw [if_neg (by omega)] at ih
        rw [if_pos (show u < n + 1 by omega)]; omega
    · rw [if_neg c]
      by_cases d : u < n
      · rw [if_pos d] at ih; rw [if_pos (show u < n + 1 by omega)]; omega
      · rw [if_neg d] at ih; omega
theorem cnt_one {p q : Nat → Bool} {t : Nat} (h : ∀ i, q i = true ↔ i = t ∨ p i = true) (hp : ¬ p t = true) : ∀ n, cnt q n = cnt p n + if t < n then 1 else 0
  | 0 => by rw [cnt, cnt]; rfl
  | n + 1 => by
    have ih := cnt_one h hp n
    rw [cnt, cnt, ih]
    by_cases e : t = n
    · subst e
      rw [if_pos ((h t).mpr (Or.inl rfl)), if_neg hp, if_neg (by omega), if_pos (by omega)]
    · by_cases c : p n = true
      · rw [if_pos c, if_pos ((h n).mpr (Or.inr c))]
        by_cases d : t < n
        · rw [if_pos d, if_pos (by omega)]
        · rw [if_neg d, if_neg (by omega)]
      · rw [if_neg c, if_neg (fun a => ((h n).mp a).elim (fun a => e a.symm) c)]
        by_cases d : t < n
        · rw [if_pos d, if_pos (by omega)]
        · rw [if_neg d, if_neg (by omega)]
theorem cnt_cut {p : Nat → Bool} {m : Nat} (h : ∀ i, m ≤ i → ¬ p i = true) : ∀ n, m ≤ n → cnt p n = cnt p m
  | 0, hn => by rw [show m = 0 by omega]
  | n + 1, hn => by
    by_cases e : m = n + 1
    · rw [e]
    · rw [cnt, if_neg (h n (by omega)), cnt_cut h n (by omega), Nat.add_zero]
/-! the reference's count, and the machine's -/
theorem bits_L (x : Int32) : ∀ (n k : Nat), 12 < k + n → k ≤ 12 → F_X5_bits_L4 x n (nI (cnt (bt x) k)) k = nI (cnt (bt x) 12) := by
  intro n
  induction n with
  | zero => intro k h1 h2; exact absurd h1 (by omega)
  | succ n ih =>
    intro k h1 h2
    rw [F_X5_bits_L4]
    by_cases c : 12 ≤ k
    · rw [if_pos c, show k = 12 by omega]
    · rw [if_neg c]
      have e : nI (cnt (bt x) k) + ((x >>> ((nI k) &&& 31)) &&& 1) = nI (cnt (bt x) (k + 1)) := by
        rw [cnt]
        by_cases d : bt x k = true
        · rw [(tst_bt (by omega) x).mpr d, if_pos d, nI_1]
        · have d2 : ¬ ((x >>> (nI k &&& 31)) &&& 1) = 1 := fun a => d ((tst_bt (by omega) x).mp a)
          rcases and1 (x >>> (nI k &&& 31)) with e | e
          · rw [e, if_neg d]; exact Int32.add_zero _
          · exact absurd e d2
      rw [e]
      exact ih (k + 1) (by omega) (by omega)
theorem bits_cnt (x : Int32) : F_X5_bits x = nI (cnt (bt x) 12) := bits_L x 13 0 (by omega) (by omega)
theorem bc_all : ∀ a, a < 64 → ∀ b, b < 64 → F_J6_bitCount_0f7a4 (nI (64 * a + b)) = F_X5_bits (nI (64 * a + b)) := by decide +kernel
theorem low_nat {x : Int32} (h : ∀ i, 12 ≤ i → ¬ bt x i = true) : ∃ n, n < 4096 ∧ x = nI n := by
  have e : x &&& 4095 = x := b_ext (fun i hi => by
    rw [b_and]
    by_cases c : i < 12
    · rw [(by decide +kernel : ∀ i, i < 12 → bt 4095 i = true) i c, Bool.and_true]
    · rw [Bool.eq_false_iff.mpr (h i (by omega)), Bool.false_and])
  rw [← e, pk_and x (m := 4095) 12 (by decide)]
  exact ⟨_, Nat.mod_lt _ (by decide), rfl⟩
theorem bc_cnt {x : Int32} (h : ∀ i, 12 ≤ i → ¬ bt x i = true) : F_J6_bitCount_0f7a4 x = nI (cnt (bt x) 12) := by
  rw [← bits_cnt]
  obtain ⟨n, hn, rfl⟩ := low_nat h
  have := bc_all (n / 64) (by omega) (n % 64) (by omega)
  rw [show 64 * (n / 64) + n % 64 = n by omega] at this
  exact this
