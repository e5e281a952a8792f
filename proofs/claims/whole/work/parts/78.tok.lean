/-! tokens -/
def Tk (N : Nat) (b : Nat → Nat) (p a n κ : Nat) : Prop :=
  p ≤ a ∧ a ≤ N ∧ (∀ k, p ≤ k → k < a → b k = 32) ∧ (a < N → b a ≠ 32) ∧
  ((κ = 0 ∧ a = N ∧ n = 0) ∨
   (1 ≤ n ∧ a + n ≤ N ∧ (∀ k, k < n → 97 ≤ b (a + k) ∧ b (a + k) ≤ 122) ∧ (a + n < N → ¬ (97 ≤ b (a + n) ∧ b (a + n) ≤ 122)) ∧ κ = (if n ≤ 8 then 1 else 5)) ∨
   (1 ≤ n ∧ a + n ≤ N ∧ (∀ k, k < n → 48 ≤ b (a + k) ∧ b (a + k) ≤ 57) ∧ (a + n < N → ¬ (48 ≤ b (a + n) ∧ b (a + n) ≤ 57)) ∧ κ = (if n ≤ 3 then 2 else 5)) ∨
   (n = 1 ∧ a + 1 ≤ N ∧ ¬ (97 ≤ b a ∧ b a ≤ 122) ∧ ¬ (48 ≤ b a ∧ b a ≤ 57) ∧ κ = (if b a = 59 then 3 else if b a = 44 then 4 else 5)))
theorem run_ex (P : Nat → Prop) (hP : ∀ k, P k ∨ ¬ P k) : ∀ j a, ∃ n, n ≤ j ∧ (∀ k, k < n → P (a + k)) ∧ (n < j → ¬ P (a + n))
  | 0, a => ⟨0, by omega, fun k hk => absurd hk (by omega), fun h => absurd h (by omega)⟩
  | j + 1, a => by
    rcases hP a with h | h
    · obtain ⟨n, h1, h2, h3⟩ := run_ex P hP j (a + 1)
      refine ⟨n + 1, by omega, fun k hk => ?_, fun q => ?_⟩
      · by_cases hk0 : k = 0
        · subst hk0
          exact h
        · have := h2 (k - 1) (by omega)
          rw [show a + 1 + (k - 1) = a + k by omega] at this
          exact this
      · have := h3 (by omega)
        rw [show a + 1 + n = a + (n + 1) by omega] at this
        exact this
    · exact ⟨0, by omega, fun k hk => absurd hk (by omega), fun _ => h⟩
theorem Tk_ex (N : Nat) (b : Nat → Nat) {p : Nat} (hp : p ≤ N) : ∃ a n κ, Tk N b p a n κ := by
  obtain ⟨d, d1, d2, d3⟩ := run_ex (fun k => b k = 32) (fun k => by by_cases h : b k = 32 <;> simp [h]) (N - p) p
  have hs : ∀ k, p ≤ k → k < p + d → b k = 32 := fun k h1 h2 => by
    have := d2 (k - p) (by omega)
    rw [show p + (k - p) = k by omega] at this
    exact this
  by_cases hN : p + d = N
  · exact ⟨p + d, 0, 0, by omega, by omega, hs, fun h => absurd h (by omega), Or.inl ⟨rfl, hN, rfl⟩⟩
  · have hne := d3 (by omega)
    by_cases hw : 97 ≤ b (p + d) ∧ b (p + d) ≤ 122
    · obtain ⟨n, n1, n2, n3⟩ := run_ex (fun k => 97 ≤ b k ∧ b k ≤ 122) (fun k => by by_cases h : 97 ≤ b k ∧ b k ≤ 122 <;> simp [h]) (N - (p + d)) (p + d)
      have hn : n ≠ 0 := fun h => by
        subst h
        exact n3 (by omega) hw
      exact ⟨p + d, n, _, by omega, by omega, hs, fun _ => hne, Or.inr (Or.inl ⟨by omega, by omega, n2, fun h => n3 (by omega), rfl⟩)⟩
    · by_cases hd : 48 ≤ b (p + d) ∧ b (p + d) ≤ 57
      · obtain ⟨n, n1, n2, n3⟩ := run_ex (fun k => 48 ≤ b k ∧ b k ≤ 57) (fun k => by by_cases h : 48 ≤ b k ∧ b k ≤ 57 <;> simp [h]) (N - (p + d)) (p + d)
        have hn : n ≠ 0 := fun h => by
          subst h
          exact n3 (by omega) hd
        exact ⟨p + d, n, _, by omega, by omega, hs, fun _ => hne, Or.inr (Or.inr (Or.inl ⟨by omega, by omega, n2, fun h => n3 (by omega), rfl⟩))⟩
      · exact ⟨p + d, 1, _, by omega, by omega, hs, fun _ => hne, Or.inr (Or.inr (Or.inr ⟨rfl, by omega, hw, hd, rfl⟩))⟩
/-- what is known of a token without its surroundings -/
def TO (N : Nat) (b : Nat → Nat) (a n κ : Nat) : Prop := a + n ≤ N ∧ κ ≤ 5 ∧ (κ = 0 → n = 0) ∧ (κ ≠ 0 → 1 ≤ n) ∧ (κ = 1 → n ≤ 8 ∧ ∀ k, k < n → 97 ≤ b (a + k) ∧ b (a + k) ≤ 122) ∧ (κ = 2 → n ≤ 3 ∧ ∀ k, k < n → 48 ≤ b (a + k) ∧ b (a + k) ≤ 57)
theorem Tk.to {N : Nat} {b : Nat → Nat} {p a n κ : Nat} (h : Tk N b p a n κ) : TO N b a n κ := by
  obtain ⟨h1, h2, h3, h4, h5⟩ := h
  rcases h5 with ⟨rfl, rfl, rfl⟩ | ⟨a1, a2, a3, a4, rfl⟩ | ⟨a1, a2, a3, a4, rfl⟩ | ⟨rfl, a2, a3, a4, rfl⟩
  · exact ⟨by omega, by omega, fun _ => rfl, fun q => absurd rfl q, fun q => absurd q (by omega), fun q => absurd q (by omega)⟩
  · by_cases q : n ≤ 8
    · rw [if_pos q]
      exact ⟨a2, by omega, fun q => absurd q (by omega), fun _ => a1, fun _ => ⟨q, a3⟩, fun q => absurd q (by omega)⟩
    · rw [if_neg q]
      exact ⟨a2, by omega, fun q => absurd q (by omega), fun _ => a1, fun q => absurd q (by omega), fun q => absurd q (by omega)⟩
  · by_cases q : n ≤ 3
    · rw [if_pos q]
      exact ⟨a2, by omega, fun q => absurd q (by omega), fun _ => a1, fun q => absurd q (by omega), fun _ => ⟨q, a3⟩⟩
    · rw [if_neg q]
      exact ⟨a2, by omega, fun q => absurd q (by omega), fun _ => a1, fun q => absurd q (by omega), fun q => absurd q (by omega)⟩
  · split
    · exact ⟨a2, by omega, fun q => absurd q (by omega), fun _ => by omega, fun q => absurd q (by omega), fun q => absurd q (by omega)⟩
    · split
      · exact ⟨a2, by omega, fun q => absurd q (by omega), fun _ => by omega, fun q => absurd q (by omega), fun q => absurd q (by omega)⟩
      · exact ⟨a2, by omega, fun q => absurd q (by omega), fun _ => by omega, fun q => absurd q (by omega), fun q => absurd q (by omega)⟩
theorem by8_i {b : Nat} (h : b < 256) : (by8 b).toInt = if b < 128 then (b : Int) else (b : Int) - 256 := by
  unfold by8
  split
  · exact nI_toInt (by omega)
  · rw [Int32.toInt_sub, nI_toInt (by omega), nI_toInt (by omega), Int.bmod_eq_of_le (by omega) (by omega)]
    rfl
theorem by8_lt {b c : Nat} (h : b < 256) (hc : c ≤ 128) : by8 b < nI c ↔ (b < c ∨ 128 ≤ b) := by
  rw [Int32.lt_iff_toInt_lt, by8_i h, nI_toInt (by omega)]
  split <;> omega
theorem by8_gt {b c : Nat} (h : b < 256) (hc : c < 128) : nI c < by8 b ↔ (c < b ∧ b < 128) := by
  rw [Int32.lt_iff_toInt_lt, by8_i h, nI_toInt (by omega)]
  split <;> omega
theorem by8_eq {b c : Nat} (h : b < 256) (hc : c < 128) : by8 b = nI c ↔ b = c := by
  rw [← Int32.toInt_inj, by8_i h, nI_toInt (by omega)]
  split <;> omega
theorem by8_sm {b : Nat} (h : b < 128) : by8 b = nI b := if_pos h
/-- the class's text and token -/
def XC (m : Me) (N : Nat) (b : Nat → Nat) : Prop := N ≤ 900 ∧ m.1 1 1 = nI N ∧ ∀ k, k < N → b k < 256 ∧ m.1 2 k = by8 (b k)
def TC (m : Me) (a n κ : Nat) : Prop := m.1 1 5 = nI a ∧ m.1 1 6 = nI n ∧ m.1 1 4 = nI κ
def Gc (m m' : Me) : Prop := (∀ x j, ¬ (x = 1 ∧ 4 ≤ j ∧ j ≤ 7) → m'.1 x j = m.1 x j) ∧ m'.2 = m.2
theorem Gc.rf (m : Me) : Gc m m := ⟨fun _ _ _ => rfl, rfl⟩
theorem Gc.tr {m m' m'' : Me} (h : Gc m m') (h' : Gc m' m'') : Gc m m'' := ⟨fun x j q => (h'.1 x j q).trans (h.1 x j q), h'.2.trans h.2⟩
theorem Gc.set {m m' : Me} (h : Gc m m') {j : Nat} (v : Int32) (hj : 4 ≤ j ∧ j ≤ 7) : Gc m (setI m' 1 j v) := ⟨fun x k q => by rw [sI_1, if_neg (by omega)]; exact h.1 x k q, h.2⟩
theorem XC.fc {m m' : Me} {N : Nat} {b : Nat → Nat} (h : XC m N b) (e : Gc m m') : XC m' N b := ⟨h.1, (e.1 1 1 (by omega)).trans h.2.1, fun k hk => ⟨(h.2.2 k hk).1, (e.1 2 k (by omega)).trans (h.2.2 k hk).2⟩⟩
section TOKC
variable {N : Nat} {b : Nat → Nat}
theorem st18 {a : Nat} (ha : a ≤ N) (hs : a < N → b a ≠ 32) : ∀ j q n (m : Me), XC m N b → q + j = a → j < n → m.1 1 5 = nI q → (∀ k, q ≤ k → k < a → b k = 32) → ∃ m', fX6_step_18 n m = fX6_step_56 FU m' ∧ m'.1 1 5 = nI a ∧ (∀ x j, ¬ (x = 1 ∧ j = 5) → m'.1 x j = m.1 x j) ∧ m'.2 = m.2 := by
  intro j
  induction j with
  | zero =>
    intro q n m hX hq hn h hk
    obtain ⟨n, rfl⟩ : ∃ n', n = n' + 1 := ⟨n - 1, by omega⟩
    obtain rfl : q = a := by omega
    obtain ⟨hN, h1, ht⟩ := hX
    refine ⟨m, ?_, h, fun _ _ _ => rfl, rfl⟩
    rw [fX6_step_18]
    by_cases hl : q < N
    · obtain ⟨t1, t2⟩ := ht q hl
      have := hs hl
      simp (disch := omega) only [h, h1, t2, by8_eq, this, cl2_so, cl1_so, ck_tr, zl_0, zl_1, zl_2, zl_3, zl_4, zl_5, zl_6, zl_7, zl_8, zl_9, zl_10, zl_11, zl_12, zl_15, zl_16, zl_20, zl_24, zl_25, zl_30, zl_31, zl_32, zl_33, zl_44, zl_48, zl_50, zl_57, zl_59, zl_60, zl_61, zl_62, zl_63, zl_64, zl_68, zl_97, zl_99, zl_100, zl_104, zl_108, zl_114, zl_120, zl_122, zl_126, zl_132, zl_180, zl_181, zl_186, zl_255, zl_900, zl_930, zl_1000, zl_1000000, nI_add, pk_mul, zs_sub, zs_lt, zs_le, zs_eq, zs_inb, zs_cl, zm_eq, zm_eq2, zm_lt, zm_le, mz_lt, mz_le, mm_eq, zs_bit, zs_or1, zs_div, zs_rem, ck_pos, if_pos, if_neg, true_or, or_true, true_and, and_true, false_or, or_false, false_and, and_false, not_true, not_false_iff, if_true, if_false, eq_self, Bool.false_eq_true, cl2_id, Bool.not_true, Bool.not_false]
    · simp (disch := omega) only [h, h1, cl2_so, cl1_so, ck_tr, zl_0, zl_1, zl_2, zl_3, zl_4, zl_5, zl_6, zl_7, zl_8, zl_9, zl_10, zl_11, zl_12, zl_15, zl_16, zl_20, zl_24, zl_25, zl_30, zl_31, zl_32, zl_33, zl_44, zl_48, zl_50, zl_57, zl_59, zl_60, zl_61, zl_62, zl_63, zl_64, zl_68, zl_97, zl_99, zl_100, zl_104, zl_108, zl_114, zl_120, zl_122, zl_126, zl_132, zl_180, zl_181, zl_186, zl_255, zl_900, zl_930, zl_1000, zl_1000000, nI_add, pk_mul, zs_sub, zs_lt, zs_le, zs_eq, zs_inb, zs_cl, zm_eq, zm_eq2, zm_lt, zm_le, mz_lt, mz_le, mm_eq, zs_bit, zs_or1, zs_div, zs_rem, ck_pos, if_pos, if_neg, true_or, or_true, true_and, and_true, false_or, or_false, false_and, and_false, not_true, not_false_iff, if_true, if_false, eq_self, Bool.false_eq_true, cl2_id, Bool.not_true, Bool.not_false]
  | succ j ih =>
    intro q n m hX hq hn h hk
    obtain ⟨n, rfl⟩ : ∃ n', n = n' + 1 := ⟨n - 1, by omega⟩
    obtain ⟨hN, h1, ht⟩ := id hX
    obtain ⟨t1, t2⟩ := ht q (by omega)
    have e32 := hk q (by omega) (by omega)
    obtain ⟨m', i1, i2, i3, i4⟩ := ih (q + 1) n (setI m 1 5 (nI (q + 1))) (hX.fc ((Gc.rf m).set _ (by omega))) (by omega) (by omega) (sI_eq _ _ _ _) (fun k a1 a2 => hk k (by omega) a2)
    refine ⟨m', ?_, i2, fun x j z => ?_, i4⟩
    · rw [fX6_step_18]
      rw [e32] at t2
      have t3 : by8 32 = nI 32 := rfl
      simp (disch := omega) only [h, h1, t2, t3, cl2_so, cl1_so, ck_tr, zl_0, zl_1, zl_2, zl_3, zl_4, zl_5, zl_6, zl_7, zl_8, zl_9, zl_10, zl_11, zl_12, zl_15, zl_16, zl_20, zl_24, zl_25, zl_30, zl_31, zl_32, zl_33, zl_44, zl_48, zl_50, zl_57, zl_59, zl_60, zl_61, zl_62, zl_63, zl_64, zl_68, zl_97, zl_99, zl_100, zl_104, zl_108, zl_114, zl_120, zl_122, zl_126, zl_132, zl_180, zl_181, zl_186, zl_255, zl_900, zl_930, zl_1000, zl_1000000, nI_add, pk_mul, zs_sub, zs_lt, zs_le, zs_eq, zs_inb, zs_cl, zm_eq, zm_eq2, zm_lt, zm_le, mz_lt, mz_le, mm_eq, zs_bit, zs_or1, zs_div, zs_rem, ck_pos, if_pos, if_neg, true_or, or_true, true_and, and_true, false_or, or_false, false_and, and_false, not_true, not_false_iff, if_true, if_false, eq_self, Bool.false_eq_true, cl2_id, Bool.not_true, Bool.not_false]
      exact i1
    · rw [i3 x j z, sI_1, if_neg z]
theorem st56 {a n1 : Nat} (ha : a + n1 ≤ N) (hr : ∀ k, k < n1 → 97 ≤ b (a + k) ∧ b (a + k) ≤ 122) (hs : a + n1 < N → ¬ (97 ≤ b (a + n1) ∧ b (a + n1) ≤ 122)) : ∀ j q n (m : Me), XC m N b → q + j = n1 → j < n → m.1 1 5 = nI a → m.1 1 6 = nI q → ∃ m', fX6_step_56 n m = fX6_step_123 m' ∧ m'.1 1 6 = nI n1 ∧ (∀ x j, ¬ (x = 1 ∧ j = 6) → m'.1 x j = m.1 x j) ∧ m'.2 = m.2 := by
  intro j
  induction j with
  | zero =>
    intro q n m hX hq hn h5 h6
    obtain ⟨n, rfl⟩ : ∃ n', n = n' + 1 := ⟨n - 1, by omega⟩
    obtain rfl : q = n1 := by omega
    obtain ⟨hN, h1, ht⟩ := hX
    refine ⟨m, ?_, h6, fun _ _ _ => rfl, rfl⟩
    rw [fX6_step_56]
    by_cases hl : a + q < N
    · obtain ⟨t1, t2⟩ := ht (a + q) hl
      have hn := hs hl
      by_cases c1 : b (a + q) < 97 ∨ 128 ≤ b (a + q)
      · simp (disch := omega) only [h5, h6, h1, t2, by8_lt, c1, cl2_so, cl1_so, ck_tr, zl_0, zl_1, zl_2, zl_3, zl_4, zl_5, zl_6, zl_7, zl_8, zl_9, zl_10, zl_11, zl_12, zl_15, zl_16, zl_20, zl_24, zl_25, zl_30, zl_31, zl_32, zl_33, zl_44, zl_48, zl_50, zl_57, zl_59, zl_60, zl_61, zl_62, zl_63, zl_64, zl_68, zl_97, zl_99, zl_100, zl_104, zl_108, zl_114, zl_120, zl_122, zl_126, zl_132, zl_180, zl_181, zl_186, zl_255, zl_900, zl_930, zl_1000, zl_1000000, nI_add, pk_mul, zs_sub, zs_lt, zs_le, zs_eq, zs_inb, zs_cl, zm_eq, zm_eq2, zm_lt, zm_le, mz_lt, mz_le, mm_eq, zs_bit, zs_or1, zs_div, zs_rem, ck_pos, if_pos, if_neg, true_or, or_true, true_and, and_true, false_or, or_false, false_and, and_false, not_true, not_false_iff, if_true, if_false, eq_self, Bool.false_eq_true, cl2_id, Bool.not_true, Bool.not_false]
      · have c2 : 122 < b (a + q) ∧ b (a + q) < 128 := by omega
        simp (disch := omega) only [h5, h6, h1, t2, by8_lt, by8_gt, c1, c2, cl2_so, cl1_so, ck_tr, zl_0, zl_1, zl_2, zl_3, zl_4, zl_5, zl_6, zl_7, zl_8, zl_9, zl_10, zl_11, zl_12, zl_15, zl_16, zl_20, zl_24, zl_25, zl_30, zl_31, zl_32, zl_33, zl_44, zl_48, zl_50, zl_57, zl_59, zl_60, zl_61, zl_62, zl_63, zl_64, zl_68, zl_97, zl_99, zl_100, zl_104, zl_108, zl_114, zl_120, zl_122, zl_126, zl_132, zl_180, zl_181, zl_186, zl_255, zl_900, zl_930, zl_1000, zl_1000000, nI_add, pk_mul, zs_sub, zs_lt, zs_le, zs_eq, zs_inb, zs_cl, zm_eq, zm_eq2, zm_lt, zm_le, mz_lt, mz_le, mm_eq, zs_bit, zs_or1, zs_div, zs_rem, ck_pos, if_pos, if_neg, true_or, or_true, true_and, and_true, false_or, or_false, false_and, and_false, not_true, not_false_iff, if_true, if_false, eq_self, Bool.false_eq_true, cl2_id, Bool.not_true, Bool.not_false]
    · simp (disch := omega) only [h5, h6, h1, cl2_so, cl1_so, ck_tr, zl_0, zl_1, zl_2, zl_3, zl_4, zl_5, zl_6, zl_7, zl_8, zl_9, zl_10, zl_11, zl_12, zl_15, zl_16, zl_20, zl_24, zl_25, zl_30, zl_31, zl_32, zl_33, zl_44, zl_48, zl_50, zl_57, zl_59, zl_60, zl_61, zl_62, zl_63, zl_64, zl_68, zl_97, zl_99, zl_100, zl_104, zl_108, zl_114, zl_120, zl_122, zl_126, zl_132, zl_180, zl_181, zl_186, zl_255, zl_900, zl_930, zl_1000, zl_1000000, nI_add, pk_mul, zs_sub, zs_lt, zs_le, zs_eq, zs_inb, zs_cl, zm_eq, zm_eq2, zm_lt, zm_le, mz_lt, mz_le, mm_eq, zs_bit, zs_or1, zs_div, zs_rem, ck_pos, if_pos, if_neg, true_or, or_true, true_and, and_true, false_or, or_false, false_and, and_false, not_true, not_false_iff, if_true, if_false, eq_self, Bool.false_eq_true, cl2_id, Bool.not_true, Bool.not_false]
  | succ j ih =>
    intro q n m hX hq hn h5 h6
    obtain ⟨n, rfl⟩ : ∃ n', n = n' + 1 := ⟨n - 1, by omega⟩
    obtain ⟨hN, h1, ht⟩ := id hX
    obtain ⟨t1, t2⟩ := ht (a + q) (by omega)
    obtain ⟨r1, r2⟩ := hr q (by omega)
    obtain ⟨m', i1, i2, i3, i4⟩ := ih (q + 1) n (setI m 1 6 (nI (q + 1))) (hX.fc ((Gc.rf m).set _ (by omega))) (by omega) (by omega) ((sI_nj (by decide)).trans h5) (sI_eq _ _ _ _)
    refine ⟨m', ?_, i2, fun x j z => ?_, i4⟩
    · rw [fX6_step_56]
      rw [by8_sm (by omega)] at t2
      simp (disch := omega) only [h5, h6, h1, t2, cl2_so, cl1_so, ck_tr, zl_0, zl_1, zl_2, zl_3, zl_4, zl_5, zl_6, zl_7, zl_8, zl_9, zl_10, zl_11, zl_12, zl_15, zl_16, zl_20, zl_24, zl_25, zl_30, zl_31, zl_32, zl_33, zl_44, zl_48, zl_50, zl_57, zl_59, zl_60, zl_61, zl_62, zl_63, zl_64, zl_68, zl_97, zl_99, zl_100, zl_104, zl_108, zl_114, zl_120, zl_122, zl_126, zl_132, zl_180, zl_181, zl_186, zl_255, zl_900, zl_930, zl_1000, zl_1000000, nI_add, pk_mul, zs_sub, zs_lt, zs_le, zs_eq, zs_inb, zs_cl, zm_eq, zm_eq2, zm_lt, zm_le, mz_lt, mz_le, mm_eq, zs_bit, zs_or1, zs_div, zs_rem, ck_pos, if_pos, if_neg, true_or, or_true, true_and, and_true, false_or, or_false, false_and, and_false, not_true, not_false_iff, if_true, if_false, eq_self, Bool.false_eq_true, cl2_id, Bool.not_true, Bool.not_false]
      exact i1
    · rw [i3 x j z, sI_1, if_neg z]
theorem st149 {a n1 : Nat} (ha : a + n1 ≤ N) (hr : ∀ k, k < n1 → 48 ≤ b (a + k) ∧ b (a + k) ≤ 57) (hs : a + n1 < N → ¬ (48 ≤ b (a + n1) ∧ b (a + n1) ≤ 57)) : ∀ j q n (m : Me), XC m N b → q + j = n1 → j < n → m.1 1 5 = nI a → m.1 1 6 = nI q → ∃ m', fX6_step_149 n m = fX6_step_216 m' ∧ m'.1 1 6 = nI n1 ∧ (∀ x j, ¬ (x = 1 ∧ j = 6) → m'.1 x j = m.1 x j) ∧ m'.2 = m.2 := by
  intro j
  induction j with
  | zero =>
    intro q n m hX hq hn h5 h6
    obtain ⟨n, rfl⟩ : ∃ n', n = n' + 1 := ⟨n - 1, by omega⟩
    obtain rfl : q = n1 := by omega
    obtain ⟨hN, h1, ht⟩ := hX
    refine ⟨m, ?_, h6, fun _ _ _ => rfl, rfl⟩
    rw [fX6_step_149]
    by_cases hl : a + q < N
    · obtain ⟨t1, t2⟩ := ht (a + q) hl
      have hn := hs hl
      by_cases c1 : b (a + q) < 48 ∨ 128 ≤ b (a + q)
      · simp (disch := omega) only [h5, h6, h1, t2, by8_lt, c1, cl2_so, cl1_so, ck_tr, zl_0, zl_1, zl_2, zl_3, zl_4, zl_5, zl_6, zl_7, zl_8, zl_9, zl_10, zl_11, zl_12, zl_15, zl_16, zl_20, zl_24, zl_25, zl_30, zl_31, zl_32, zl_33, zl_44, zl_48, zl_50, zl_57, zl_59, zl_60, zl_61, zl_62, zl_63, zl_64, zl_68, zl_97, zl_99, zl_100, zl_104, zl_108, zl_114, zl_120, zl_122, zl_126, zl_132, zl_180, zl_181, zl_186, zl_255, zl_900, zl_930, zl_1000, zl_1000000, nI_add, pk_mul, zs_sub, zs_lt, zs_le, zs_eq, zs_inb, zs_cl, zm_eq, zm_eq2, zm_lt, zm_le, mz_lt, mz_le, mm_eq, zs_bit, zs_or1, zs_div, zs_rem, ck_pos, if_pos, if_neg, true_or, or_true, true_and, and_true, false_or, or_false, false_and, and_false, not_true, not_false_iff, if_true, if_false, eq_self, Bool.false_eq_true, cl2_id, Bool.not_true, Bool.not_false]
      · have c2 : 57 < b (a + q) ∧ b (a + q) < 128 := by omega
        simp (disch := omega) only [h5, h6, h1, t2, by8_lt, by8_gt, c1, c2, cl2_so, cl1_so, ck_tr, zl_0, zl_1, zl_2, zl_3, zl_4, zl_5, zl_6, zl_7, zl_8, zl_9, zl_10, zl_11, zl_12, zl_15, zl_16, zl_20, zl_24, zl_25, zl_30, zl_31, zl_32, zl_33, zl_44, zl_48, zl_50, zl_57, zl_59, zl_60, zl_61, zl_62, zl_63, zl_64, zl_68, zl_97, zl_99, zl_100, zl_104, zl_108, zl_114, zl_120, zl_122, zl_126, zl_132, zl_180, zl_181, zl_186, zl_255, zl_900, zl_930, zl_1000, zl_1000000, nI_add, pk_mul, zs_sub, zs_lt, zs_le, zs_eq, zs_inb, zs_cl, zm_eq, zm_eq2, zm_lt, zm_le, mz_lt, mz_le, mm_eq, zs_bit, zs_or1, zs_div, zs_rem, ck_pos, if_pos, if_neg, true_or, or_true, true_and, and_true, false_or, or_false, false_and, and_false, not_true, not_false_iff, if_true, if_false, eq_self, Bool.false_eq_true, cl2_id, Bool.not_true, Bool.not_false]
    · simp (disch := omega) only [h5, h6, h1, cl2_so, cl1_so, ck_tr, zl_0, zl_1, zl_2, zl_3, zl_4, zl_5, zl_6, zl_7, zl_8, zl_9, zl_10, zl_11, zl_12, zl_15, zl_16, zl_20, zl_24, zl_25, zl_30, zl_31, zl_32, zl_33, zl_44, zl_48, zl_50, zl_57, zl_59, zl_60, zl_61, zl_62, zl_63, zl_64, zl_68, zl_97, zl_99, zl_100, zl_104, zl_108, zl_114, zl_120, zl_122, zl_126, zl_132, zl_180, zl_181, zl_186, zl_255, zl_900, zl_930, zl_1000, zl_1000000, nI_add, pk_mul, zs_sub, zs_lt, zs_le, zs_eq, zs_inb, zs_cl, zm_eq, zm_eq2, zm_lt, zm_le, mz_lt, mz_le, mm_eq, zs_bit, zs_or1, zs_div, zs_rem, ck_pos, if_pos, if_neg, true_or, or_true, true_and, and_true, false_or, or_false, false_and, and_false, not_true, not_false_iff, if_true, if_false, eq_self, Bool.false_eq_true, cl2_id, Bool.not_true, Bool.not_false]
  | succ j ih =>
    intro q n m hX hq hn h5 h6
    obtain ⟨n, rfl⟩ : ∃ n', n = n' + 1 := ⟨n - 1, by omega⟩
    obtain ⟨hN, h1, ht⟩ := id hX
    obtain ⟨t1, t2⟩ := ht (a + q) (by omega)
    obtain ⟨r1, r2⟩ := hr q (by omega)
    obtain ⟨m', i1, i2, i3, i4⟩ := ih (q + 1) n (setI m 1 6 (nI (q + 1))) (hX.fc ((Gc.rf m).set _ (by omega))) (by omega) (by omega) ((sI_nj (by decide)).trans h5) (sI_eq _ _ _ _)
    refine ⟨m', ?_, i2, fun x j z => ?_, i4⟩
    · rw [fX6_step_149]
      rw [by8_sm (by omega)] at t2
      simp (disch := omega) only [h5, h6, h1, t2, cl2_so, cl1_so, ck_tr, zl_0, zl_1, zl_2, zl_3, zl_4, zl_5, zl_6, zl_7, zl_8, zl_9, zl_10, zl_11, zl_12, zl_15, zl_16, zl_20, zl_24, zl_25, zl_30, zl_31, zl_32, zl_33, zl_44, zl_48, zl_50, zl_57, zl_59, zl_60, zl_61, zl_62, zl_63, zl_64, zl_68, zl_97, zl_99, zl_100, zl_104, zl_108, zl_114, zl_120, zl_122, zl_126, zl_132, zl_180, zl_181, zl_186, zl_255, zl_900, zl_930, zl_1000, zl_1000000, nI_add, pk_mul, zs_sub, zs_lt, zs_le, zs_eq, zs_inb, zs_cl, zm_eq, zm_eq2, zm_lt, zm_le, mz_lt, mz_le, mm_eq, zs_bit, zs_or1, zs_div, zs_rem, ck_pos, if_pos, if_neg, true_or, or_true, true_and, and_true, false_or, or_false, false_and, and_false, not_true, not_false_iff, if_true, if_false, eq_self, Bool.false_eq_true, cl2_id, Bool.not_true, Bool.not_false]
      exact i1
    · rw [i3 x j z, sI_1, if_neg z]
theorem step_e {m : Me} {p a n κ a0 n0 : Nat} (hX : XC m N b) (h5 : m.1 1 5 = nI a0) (h6 : m.1 1 6 = nI n0) (hp : a0 + n0 = p) (hpN : p ≤ N) (hT : Tk N b p a n κ) : ∃ m', fX6_step m = some m' ∧ TC m' a n κ ∧ Gc m m' ∧ m'.1 1 7 = m.1 1 7 := by
  obtain ⟨h1, h2, h3, h4, hc⟩ := hT
  have hN := hX.1
  have f0 : Gc m (setI (setI m 1 5 (nI p)) 1 6 (nI 0)) := ((Gc.rf m).set _ (by omega)).set _ (by omega)
  obtain ⟨m1, e1, a1, a2, a3⟩ := st18 h2 h4 (a - p) p FU (setI (setI m 1 5 (nI p)) 1 6 (nI 0)) (hX.fc f0) (by omega) (FU_pos (by omega)) ((sI_nj (by decide)).trans (sI_eq _ _ _ _)) h3
  have f1 : Gc m m1 := f0.tr ⟨fun x j q => a2 x j (by omega), a3⟩
  have c6 : m1.1 1 6 = nI 0 := (a2 1 6 (by omega)).trans (sI_eq _ _ _ _)
  have c7 : m1.1 1 7 = m.1 1 7 := (a2 1 7 (by omega)).trans ((sI_nj (by decide)).trans (sI_nj (by decide)))
  have e0 : fX6_step m = fX6_step_56 FU m1 := by
    unfold fX6_step
    rw [h5, h6, nI_add, hp]
    exact e1
  have hX1 := hX.fc f1
  rcases hc with ⟨rfl, rfl, rfl⟩ | ⟨d1, d2, d3, d4, rfl⟩ | ⟨d1, d2, d3, d4, rfl⟩ | ⟨rfl, d2, d3, d4, rfl⟩
  · obtain ⟨m2, e2, b1, b2, b3⟩ := st56 (b := b) (a := a) (n1 := 0) (by omega) (fun k hk => absurd hk (by omega)) (fun q => absurd q (by omega)) 0 0 FU m1 hX1 (by omega) (FU_pos (by omega)) a1 c6
    have f2 : Gc m m2 := f1.tr ⟨fun x j q => b2 x j (by omega), b3⟩
    obtain ⟨m3, e3, g1, g2, g3⟩ := st149 (b := b) (a := a) (n1 := 0) (by omega) (fun k hk => absurd hk (by omega)) (fun q => absurd q (by omega)) 0 0 FU m2 (hX.fc f2) (by omega) (FU_pos (by omega)) ((b2 1 5 (by omega)).trans a1) b1
    have k5 : m3.1 1 5 = nI a := (g2 1 5 (by omega)).trans ((b2 1 5 (by omega)).trans a1)
    have k1 : m3.1 1 1 = nI a := (g2 1 1 (by omega)).trans ((b2 1 1 (by omega)).trans hX1.2.1)
    refine ⟨setI m3 1 4 (nI 0), ?_, ⟨(sI_nj (by decide)).trans k5, (sI_nj (by decide)).trans g1, sI_eq _ _ _ _⟩, (f2.tr ⟨fun x j q => g2 x j (by omega), g3⟩).set _ (by omega), ?_⟩
    · rw [e0, e2]
      unfold fX6_step_123
      rw [b1, if_pos (by decide), e3]
      unfold fX6_step_216
      simp (disch := omega) only [g1, k5, k1, cl2_so, cl1_so, ck_tr, zl_0, zl_1, zl_2, zl_3, zl_4, zl_5, zl_6, zl_7, zl_8, zl_9, zl_10, zl_11, zl_12, zl_15, zl_16, zl_20, zl_24, zl_25, zl_30, zl_31, zl_32, zl_33, zl_44, zl_48, zl_50, zl_57, zl_59, zl_60, zl_61, zl_62, zl_63, zl_64, zl_68, zl_97, zl_99, zl_100, zl_104, zl_108, zl_114, zl_120, zl_122, zl_126, zl_132, zl_180, zl_181, zl_186, zl_255, zl_900, zl_930, zl_1000, zl_1000000, nI_add, pk_mul, zs_sub, zs_lt, zs_le, zs_eq, zs_inb, zs_cl, zm_eq, zm_eq2, zm_lt, zm_le, mz_lt, mz_le, mm_eq, zs_bit, zs_or1, zs_div, zs_rem, ck_pos, if_pos, if_neg, true_or, or_true, true_and, and_true, false_or, or_false, false_and, and_false, not_true, not_false_iff, if_true, if_false, eq_self, Bool.false_eq_true, cl2_id, Bool.not_true, Bool.not_false]
    · rw [sI_nj (by decide), g2 1 7 (by omega), b2 1 7 (by omega), c7]
  · obtain ⟨m2, e2, b1, b2, b3⟩ := st56 (b := b) d2 d3 d4 n 0 FU m1 hX1 (by omega) (FU_pos (by omega)) a1 c6
    have f2 : Gc m m2 := f1.tr ⟨fun x j q => b2 x j (by omega), b3⟩
    have k5 : m2.1 1 5 = nI a := (b2 1 5 (by omega)).trans a1
    have k7 : m2.1 1 7 = m.1 1 7 := (b2 1 7 (by omega)).trans c7
    refine ⟨setI m2 1 4 (nI (if n ≤ 8 then 1 else 5)), ?_, ⟨(sI_nj (by decide)).trans k5, (sI_nj (by decide)).trans b1, sI_eq _ _ _ _⟩, f2.set _ (by omega), (sI_nj (by decide)).trans k7⟩
    rw [e0, e2]
    unfold fX6_step_123 fX6_step_145
    by_cases q : n ≤ 8
    · rw [if_pos (c := n ≤ 8) q]
      simp (disch := omega) only [b1, cl2_so, cl1_so, ck_tr, zl_0, zl_1, zl_2, zl_3, zl_4, zl_5, zl_6, zl_7, zl_8, zl_9, zl_10, zl_11, zl_12, zl_15, zl_16, zl_20, zl_24, zl_25, zl_30, zl_31, zl_32, zl_33, zl_44, zl_48, zl_50, zl_57, zl_59, zl_60, zl_61, zl_62, zl_63, zl_64, zl_68, zl_97, zl_99, zl_100, zl_104, zl_108, zl_114, zl_120, zl_122, zl_126, zl_132, zl_180, zl_181, zl_186, zl_255, zl_900, zl_930, zl_1000, zl_1000000, nI_add, pk_mul, zs_sub, zs_lt, zs_le, zs_eq, zs_inb, zs_cl, zm_eq, zm_eq2, zm_lt, zm_le, mz_lt, mz_le, mm_eq, zs_bit, zs_or1, zs_div, zs_rem, ck_pos, if_pos, if_neg, true_or, or_true, true_and, and_true, false_or, or_false, false_and, and_false, not_true, not_false_iff, if_true, if_false, eq_self, Bool.false_eq_true, cl2_id, Bool.not_true, Bool.not_false]
    · rw [if_neg (c := n ≤ 8) q]
      simp (disch := omega) only [b1, cl2_so, cl1_so, ck_tr, zl_0, zl_1, zl_2, zl_3, zl_4, zl_5, zl_6, zl_7, zl_8, zl_9, zl_10, zl_11, zl_12, zl_15, zl_16, zl_20, zl_24, zl_25, zl_30, zl_31, zl_32, zl_33, zl_44, zl_48, zl_50, zl_57, zl_59, zl_60, zl_61, zl_62, zl_63, zl_64, zl_68, zl_97, zl_99, zl_100, zl_104, zl_108, zl_114, zl_120, zl_122, zl_126, zl_132, zl_180, zl_181, zl_186, zl_255, zl_900, zl_930, zl_1000, zl_1000000, nI_add, pk_mul, zs_sub, zs_lt, zs_le, zs_eq, zs_inb, zs_cl, zm_eq, zm_eq2, zm_lt, zm_le, mz_lt, mz_le, mm_eq, zs_bit, zs_or1, zs_div, zs_rem, ck_pos, if_pos, if_neg, true_or, or_true, true_and, and_true, false_or, or_false, false_and, and_false, not_true, not_false_iff, if_true, if_false, eq_self, Bool.false_eq_true, cl2_id, Bool.not_true, Bool.not_false]
  · have hns : ¬ (97 ≤ b a ∧ b a ≤ 122) := by have := d3 0 (by omega); rw [Nat.add_zero] at this; omega
    obtain ⟨m2, e2, b1, b2, b3⟩ := st56 (b := b) (a := a) (n1 := 0) (by omega) (fun k hk => absurd hk (by omega)) (fun q => hns) 0 0 FU m1 hX1 (by omega) (FU_pos (by omega)) a1 c6
    have f2 : Gc m m2 := f1.tr ⟨fun x j q => b2 x j (by omega), b3⟩
    obtain ⟨m3, e3, g1, g2, g3⟩ := st149 (b := b) d2 d3 d4 n 0 FU m2 (hX.fc f2) (by omega) (FU_pos (by omega)) ((b2 1 5 (by omega)).trans a1) b1
    have k5 : m3.1 1 5 = nI a := (g2 1 5 (by omega)).trans ((b2 1 5 (by omega)).trans a1)
    have k7 : m3.1 1 7 = m.1 1 7 := (g2 1 7 (by omega)).trans ((b2 1 7 (by omega)).trans c7)
    refine ⟨setI m3 1 4 (nI (if n ≤ 3 then 2 else 5)), ?_, ⟨(sI_nj (by decide)).trans k5, (sI_nj (by decide)).trans g1, sI_eq _ _ _ _⟩, (f2.tr ⟨fun x j q => g2 x j (by omega), g3⟩).set _ (by omega), (sI_nj (by decide)).trans k7⟩
    rw [e0, e2]
    unfold fX6_step_123
    rw [b1, if_pos (by decide), e3]
    unfold fX6_step_216 fX6_step_237
    by_cases q : n ≤ 3
    · rw [if_pos (c := n ≤ 3) q]
      simp (disch := omega) only [g1, cl2_so, cl1_so, ck_tr, zl_0, zl_1, zl_2, zl_3, zl_4, zl_5, zl_6, zl_7, zl_8, zl_9, zl_10, zl_11, zl_12, zl_15, zl_16, zl_20, zl_24, zl_25, zl_30, zl_31, zl_32, zl_33, zl_44, zl_48, zl_50, zl_57, zl_59, zl_60, zl_61, zl_62, zl_63, zl_64, zl_68, zl_97, zl_99, zl_100, zl_104, zl_108, zl_114, zl_120, zl_122, zl_126, zl_132, zl_180, zl_181, zl_186, zl_255, zl_900, zl_930, zl_1000, zl_1000000, nI_add, pk_mul, zs_sub, zs_lt, zs_le, zs_eq, zs_inb, zs_cl, zm_eq, zm_eq2, zm_lt, zm_le, mz_lt, mz_le, mm_eq, zs_bit, zs_or1, zs_div, zs_rem, ck_pos, if_pos, if_neg, true_or, or_true, true_and, and_true, false_or, or_false, false_and, and_false, not_true, not_false_iff, if_true, if_false, eq_self, Bool.false_eq_true, cl2_id, Bool.not_true, Bool.not_false]
    · rw [if_neg (c := n ≤ 3) q]
      simp (disch := omega) only [g1, cl2_so, cl1_so, ck_tr, zl_0, zl_1, zl_2, zl_3, zl_4, zl_5, zl_6, zl_7, zl_8, zl_9, zl_10, zl_11, zl_12, zl_15, zl_16, zl_20, zl_24, zl_25, zl_30, zl_31, zl_32, zl_33, zl_44, zl_48, zl_50, zl_57, zl_59, zl_60, zl_61, zl_62, zl_63, zl_64, zl_68, zl_97, zl_99, zl_100, zl_104, zl_108, zl_114, zl_120, zl_122, zl_126, zl_132, zl_180, zl_181, zl_186, zl_255, zl_900, zl_930, zl_1000, zl_1000000, nI_add, pk_mul, zs_sub, zs_lt, zs_le, zs_eq, zs_inb, zs_cl, zm_eq, zm_eq2, zm_lt, zm_le, mz_lt, mz_le, mm_eq, zs_bit, zs_or1, zs_div, zs_rem, ck_pos, if_pos, if_neg, true_or, or_true, true_and, and_true, false_or, or_false, false_and, and_false, not_true, not_false_iff, if_true, if_false, eq_self, Bool.false_eq_true, cl2_id, Bool.not_true, Bool.not_false]
  · obtain ⟨m2, e2, b1, b2, b3⟩ := st56 (b := b) (a := a) (n1 := 0) (by omega) (fun k hk => absurd hk (by omega)) (fun q => d3) 0 0 FU m1 hX1 (by omega) (FU_pos (by omega)) a1 c6
    have f2 : Gc m m2 := f1.tr ⟨fun x j q => b2 x j (by omega), b3⟩
    obtain ⟨m3, e3, g1, g2, g3⟩ := st149 (b := b) (a := a) (n1 := 0) (by omega) (fun k hk => absurd hk (by omega)) (fun q => d4) 0 0 FU m2 (hX.fc f2) (by omega) (FU_pos (by omega)) ((b2 1 5 (by omega)).trans a1) b1
    have f3 : Gc m m3 := f2.tr ⟨fun x j q => g2 x j (by omega), g3⟩
    have k5 : m3.1 1 5 = nI a := (g2 1 5 (by omega)).trans ((b2 1 5 (by omega)).trans a1)
    have k7 : m3.1 1 7 = m.1 1 7 := (g2 1 7 (by omega)).trans ((b2 1 7 (by omega)).trans c7)
    have hX3 := hX.fc f3
    have k1 : m3.1 1 1 = nI N := hX3.2.1
    obtain ⟨t1, t2⟩ := hX3.2.2 a (by omega)
    have k5' : (setI m3 1 6 (nI 1)).1 1 5 = nI a := (sI_nj (by decide)).trans k5
    have t2' : (setI m3 1 6 (nI 1)).1 2 a = by8 (b a) := (sI_na (by decide)).trans t2
    refine ⟨setI (setI m3 1 6 (nI 1)) 1 4 (nI (if b a = 59 then 3 else if b a = 44 then 4 else 5)), ?_, ⟨(sI_nj (by decide)).trans k5', (sI_nj (by decide)).trans (sI_eq _ _ _ _), sI_eq _ _ _ _⟩, (f3.set _ (by omega)).set _ (by omega), (sI_nj (by decide)).trans ((sI_nj (by decide)).trans k7)⟩
    rw [e0, e2]
    unfold fX6_step_123
    rw [b1, if_pos (by decide), e3]
    unfold fX6_step_216 fX6_step_301
    by_cases q : b a = 59
    · rw [if_pos (c := b a = 59) q]
      simp (disch := omega) only [g1, k5, k1, k5', t2', by8_eq, q, cl2_so, cl1_so, ck_tr, zl_0, zl_1, zl_2, zl_3, zl_4, zl_5, zl_6, zl_7, zl_8, zl_9, zl_10, zl_11, zl_12, zl_15, zl_16, zl_20, zl_24, zl_25, zl_30, zl_31, zl_32, zl_33, zl_44, zl_48, zl_50, zl_57, zl_59, zl_60, zl_61, zl_62, zl_63, zl_64, zl_68, zl_97, zl_99, zl_100, zl_104, zl_108, zl_114, zl_120, zl_122, zl_126, zl_132, zl_180, zl_181, zl_186, zl_255, zl_900, zl_930, zl_1000, zl_1000000, nI_add, pk_mul, zs_sub, zs_lt, zs_le, zs_eq, zs_inb, zs_cl, zm_eq, zm_eq2, zm_lt, zm_le, mz_lt, mz_le, mm_eq, zs_bit, zs_or1, zs_div, zs_rem, ck_pos, if_pos, if_neg, true_or, or_true, true_and, and_true, false_or, or_false, false_and, and_false, not_true, not_false_iff, if_true, if_false, eq_self, Bool.false_eq_true, cl2_id, Bool.not_true, Bool.not_false]
    · rw [if_neg (c := b a = 59) q]
      by_cases q2 : b a = 44
      · rw [if_pos (c := b a = 44) q2]
        simp (disch := omega) only [g1, k5, k1, k5', t2', by8_eq, q, q2, cl2_so, cl1_so, ck_tr, zl_0, zl_1, zl_2, zl_3, zl_4, zl_5, zl_6, zl_7, zl_8, zl_9, zl_10, zl_11, zl_12, zl_15, zl_16, zl_20, zl_24, zl_25, zl_30, zl_31, zl_32, zl_33, zl_44, zl_48, zl_50, zl_57, zl_59, zl_60, zl_61, zl_62, zl_63, zl_64, zl_68, zl_97, zl_99, zl_100, zl_104, zl_108, zl_114, zl_120, zl_122, zl_126, zl_132, zl_180, zl_181, zl_186, zl_255, zl_900, zl_930, zl_1000, zl_1000000, nI_add, pk_mul, zs_sub, zs_lt, zs_le, zs_eq, zs_inb, zs_cl, zm_eq, zm_eq2, zm_lt, zm_le, mz_lt, mz_le, mm_eq, zs_bit, zs_or1, zs_div, zs_rem, ck_pos, if_pos, if_neg, true_or, or_true, true_and, and_true, false_or, or_false, false_and, and_false, not_true, not_false_iff, if_true, if_false, eq_self, Bool.false_eq_true, cl2_id, Bool.not_true, Bool.not_false]
      · rw [if_neg (c := b a = 44) q2]
        simp (disch := omega) only [g1, k5, k1, k5', t2', by8_eq, q, q2, cl2_so, cl1_so, ck_tr, zl_0, zl_1, zl_2, zl_3, zl_4, zl_5, zl_6, zl_7, zl_8, zl_9, zl_10, zl_11, zl_12, zl_15, zl_16, zl_20, zl_24, zl_25, zl_30, zl_31, zl_32, zl_33, zl_44, zl_48, zl_50, zl_57, zl_59, zl_60, zl_61, zl_62, zl_63, zl_64, zl_68, zl_97, zl_99, zl_100, zl_104, zl_108, zl_114, zl_120, zl_122, zl_126, zl_132, zl_180, zl_181, zl_186, zl_255, zl_900, zl_930, zl_1000, zl_1000000, nI_add, pk_mul, zs_sub, zs_lt, zs_le, zs_eq, zs_inb, zs_cl, zm_eq, zm_eq2, zm_lt, zm_le, mz_lt, mz_le, mm_eq, zs_bit, zs_or1, zs_div, zs_rem, ck_pos, if_pos, if_neg, true_or, or_true, true_and, and_true, false_or, or_false, false_and, and_false, not_true, not_false_iff, if_true, if_false, eq_self, Bool.false_eq_true, cl2_id, Bool.not_true, Bool.not_false]
end TOKC
