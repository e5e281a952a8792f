/-! painted, cost, wish, mend, mendAt -/
def z_pc (r s : Nat → Nat) (i : Nat) : Nat := if i % 30 < r 1 * r 0 then s (30 * (i / 30) + (3 * (i % 30 / r 1) + i % 30 % r 1)) else 25
theorem z_ct_shift (g : Nat → Bool) (d : Nat) : ∀ j k, z_ct g (k + d) j = z_ct (fun i => g (i + d)) k j
  | 0, k => rfl
  | j + 1, k => by
    rw [z_ct, z_ct, ← z_ct_shift g d j (k + 1)]
    have e : k + d + 1 = k + 1 + d := by omega
    rw [e]
/-- cells laid wide by wide, and three by three -/
theorem lay_ct {g h : Nat → Bool} {w n : Nat} (hw : 1 ≤ w ∧ w ≤ 3) (hn : n ≤ 10) (h1 : ∀ rib c, rib < n → c < w → g (w * rib + c) = h (3 * rib + c)) (h2 : ∀ i, w * n ≤ i → i < 30 → g i = false) (h3 : ∀ rib c, rib < 10 → c < 3 → ¬ (rib < n ∧ c < w) → h (3 * rib + c) = false) : z_ct g 0 30 = z_ct h 0 30 := by
  have blk : ∀ k, k ≤ n → z_ct g 0 (w * k) = z_ct h 0 (3 * k) := by
    intro k
    induction k with
    | zero => intro _; rfl
    | succ k ih =>
      intro hk
      rw [Nat.mul_add, Nat.mul_add, z_ct_app, z_ct_app, ih (by omega)]
      congr 1
      rw [Nat.zero_add, Nat.zero_add, Nat.mul_one]
      have a0 := h1 k 0 (by omega) (by omega)
      have b1 : w ≤ 1 → h (3 * k + 1) = false := fun q => h3 k 1 (by omega) (by omega) (by omega)
      have b2 : w ≤ 2 → h (3 * k + 2) = false := fun q => h3 k 2 (by omega) (by omega) (by omega)
      have a1 : 2 ≤ w → g (w * k + 1) = h (3 * k + 1) := fun q => h1 k 1 (by omega) (by omega)
      have a2 : 3 ≤ w → g (w * k + 2) = h (3 * k + 2) := fun q => h1 k 2 (by omega) (by omega)
      rw [Nat.add_zero, Nat.add_zero] at a0
      have hw' : w = 1 ∨ w = 2 ∨ w = 3 := by omega
      rcases hw' with rfl | rfl | rfl
      · simp only [z_ct, a0, b1 (by omega), b2 (by omega)]
        simp
      · simp only [z_ct, a0, a1 (by omega), b2 (by omega)]
        simp
      · simp only [z_ct, a0, a1 (by omega), a2 (by omega)]
  have hwn : w * n ≤ 30 := Nat.le_trans (Nat.mul_le_mul hw.2 hn) (by decide)
  have e1 : z_ct g 0 30 = z_ct g 0 (w * n) := by
    have e : 30 = w * n + (30 - w * n) := by omega
    rw [e, z_ct_app, z_ct_0 (30 - w * n) (0 + w * n) (fun i a b => h2 i (by omega) (by omega))]
    rfl
  have e2 : z_ct h 0 30 = z_ct h 0 (3 * n) := by
    have e : 30 = 3 * n + (30 - 3 * n) := by omega
    rw [e, z_ct_app, z_ct_0 (30 - 3 * n) (0 + 3 * n) (fun i a b => ?_)]
    · rfl
    · have := h3 (i / 3) (i % 3) (by omega) (by omega) (by omega)
      have e4 : 3 * (i / 3) + i % 3 = i := by omega
      rw [e4] at this
      exact this
  rw [e1, e2, blk n (by omega)]
section C9
variable {m : Me} {H : Bool} {t : Nat} {r s : Nat → Nat} {x1 x2 x3 x4 : Int32}
theorem pc_at (hf : z_fan r) {side rib c : Nat} (hs : side ≤ 1) (hr : rib < r 0) (hc : c < r 1) : z_pc r s (side * 30 + (r 1 * rib + c)) = s (30 * side + (3 * rib + c)) := by
  obtain ⟨f0, f1, f2, f3, f4⟩ := hf
  have h1 : r 1 * rib + c < r 1 * r 0 := by
    have : r 1 * (rib + 1) ≤ r 1 * r 0 := Nat.mul_le_mul_left _ hr
    rw [Nat.mul_add] at this
    omega
  have h2 : r 1 * r 0 ≤ 30 := Nat.le_trans (Nat.mul_le_mul f3 f1) (by decide)
  unfold z_pc
  have e1 : (side * 30 + (r 1 * rib + c)) % 30 = r 1 * rib + c := by omega
  have e2 : (side * 30 + (r 1 * rib + c)) / 30 = side := by omega
  rw [e1, e2, if_pos h1]
  have e3 : (r 1 * rib + c) / r 1 = rib := by
    rw [Nat.mul_add_div (by omega), Nat.div_eq_of_lt hc]
    rfl
  have e4 : (r 1 * rib + c) % r 1 = c := by
    rw [Nat.mul_add_mod, Nat.mod_eq_of_lt hc]
  rw [e3, e4]
theorem CPs.at {p : Nat} (h : CPs m p r s) (hf : z_fan r) {i : Nat} (hi : i < 60) : m.1 (p + 1) i = nI (z_pc r s i) := by
  obtain ⟨f0, f1, f2, f3, f4⟩ := hf
  by_cases hk : i % 30 < r 1 * r 0
  · have hd : i % 30 / r 1 < r 0 := Nat.div_lt_of_lt_mul hk
    have hm : i % 30 % r 1 < r 1 := Nat.mod_lt _ (by omega)
    have e := h.1 (i / 30) (i % 30 / r 1) (i % 30 % r 1) (by omega) hd hm
    rw [Nat.div_add_mod] at e
    have e2 : i / 30 * 30 + i % 30 = i := by omega
    rw [e2] at e
    rw [e]
    unfold z_pc
    rw [if_pos hk]
  · rw [h.2.2.2 i hi]
    · unfold z_pc
      rw [if_neg hk]
      rfl
    · rintro ⟨side, rib, c, a, b, d, e⟩
      apply hk
      have h1 : r 1 * rib + c < r 1 * r 0 := by
        have : r 1 * (rib + 1) ≤ r 1 * r 0 := Nat.mul_le_mul_left _ b
        rw [Nat.mul_add] at this
        omega
      have h2 : r 1 * r 0 ≤ 30 := Nat.le_trans (Nat.mul_le_mul f3 f1) (by decide)
      omega
theorem pc_25 (hO : KO r s) {i : Nat} (hi : i < 60) : z_pc r s i ≤ 25 := by
  unfold z_pc
  obtain ⟨f0, f1, f2, f3, f4⟩ := hO.1.1
  split
  · rename_i hk
    have hd : i % 30 / r 1 < r 0 := Nat.div_lt_of_lt_mul hk
    have hm : i % 30 % r 1 < r 1 := Nat.mod_lt _ (by omega)
    exact hO.2.1 _ (by omega)
  · omega
/-- the same count by the class's places and by the reference's, of what 25 has not -/
theorem pc_ct (hO : KO r s) (p : Nat → Bool) (hp : p 25 = false) : z_ct (fun i => p (z_pc r s i)) 0 60 = z_ct (fun i => p (s i)) 0 60 := by
  have hf := hO.1.1
  obtain ⟨f0, f1, f2, f3, f4⟩ := hO.1.1
  have e60 : (60 : Nat) = 30 + 30 := rfl
  rw [e60, z_ct_app, z_ct_app]
  have half : ∀ side, side ≤ 1 → z_ct (fun i => p (z_pc r s (i + 30 * side))) 0 30 = z_ct (fun i => p (s (i + 30 * side))) 0 30 := by
    intro side hs
    apply lay_ct (w := r 1) (n := r 0) ⟨f2, f3⟩ f1
    · intro rib c hr hc
      have e := pc_at (s := s) hf hs hr hc
      have e1 : r 1 * rib + c + 30 * side = side * 30 + (r 1 * rib + c) := by omega
      have e2 : 3 * rib + c + 30 * side = 30 * side + (3 * rib + c) := by omega
      simp only [e1, e2, e]
    · intro i h1 h2
      have e : z_pc r s (i + 30 * side) = 25 := by
        unfold z_pc
        rw [if_neg (by omega)]
      simp only [e, hp]
    · intro rib c hr hc hn
      have e := hO.2.2.2.2 side (3 * rib + c) hs (by omega) (by
        have e1 : (3 * rib + c) / 3 = rib := by omega
        have e2 : (3 * rib + c) % 3 = c := by omega
        rw [e1, e2]
        exact hn)
      have e2 : 3 * rib + c + 30 * side = 30 * side + (3 * rib + c) := by omega
      simp only [e2, e, hp]
  have h0 := half 0 (by omega)
  have h1 := half 1 (by omega)
  have s1 := z_ct_shift (fun i => p (z_pc r s i)) 30 30 0
  have s2 := z_ct_shift (fun i => p (s i)) 30 30 0
  rw [s1, s2]
  have h0' : z_ct (fun i => p (z_pc r s i)) 0 30 = z_ct (fun i => p (s i)) 0 30 := h0
  have h1' : z_ct (fun i => p (z_pc r s (i + 30))) 0 30 = z_ct (fun i => p (s (i + 30))) 0 30 := h1
  rw [h0', h1']
theorem cp4 (hO : KO r s) (h : KC m t r s) : ∀ j k n q, k + j = 60 → j < n → q ≤ k → fX5_countPainted_4 n 81 (nI q) (nI k) m = some (nI (q + z_ct (fun i => decide (z_pc r s i ≠ 25)) k j), m) := by
  intro j
  induction j with
  | zero =>
    intro k n q hk hn hq
    obtain ⟨n, rfl⟩ : ∃ n', n = n' + 1 := ⟨n - 1, by omega⟩
    rw [fX5_countPainted_4, z_ct]
    simp (disch := omega) only [Nat.add_zero, cl2_so, cl1_so, ck_tr, zl_0, zl_1, zl_2, zl_3, zl_4, zl_5, zl_6, zl_7, zl_8, zl_9, zl_10, zl_11, zl_12, zl_15, zl_16, zl_20, zl_24, zl_25, zl_30, zl_31, zl_32, zl_33, zl_44, zl_48, zl_50, zl_57, zl_59, zl_60, zl_61, zl_62, zl_63, zl_64, zl_68, zl_97, zl_99, zl_100, zl_104, zl_108, zl_114, zl_120, zl_122, zl_126, zl_132, zl_180, zl_181, zl_186, zl_255, zl_900, zl_930, zl_1000, zl_1000000, nI_add, pk_mul, zs_sub, zs_lt, zs_le, zs_eq, zs_inb, zs_cl, zm_eq, zm_eq2, zm_lt, zm_le, mz_lt, mz_le, mm_eq, zs_bit, zs_or1, zs_div, zs_rem, ck_pos, if_pos, if_neg, true_or, or_true, true_and, and_true, false_or, or_false, false_and, and_false, not_true, not_false_iff, if_true, if_false, eq_self, Bool.false_eq_true, cl2_id, Bool.not_true, Bool.not_false]
  | succ j ih =>
    intro k n q hk hn hq
    obtain ⟨n, rfl⟩ : ∃ n', n = n' + 1 := ⟨n - 1, by omega⟩
    rw [fX5_countPainted_4, z_ct]
    have e := h.2.2.2.1.at hO.1.1 (i := k) (by omega)
    have h25 := pc_25 hO (i := k) (by omega)
    unfold fX5_countPainted_27
    by_cases hq2 : z_pc r s k = 25
    · rw [decide_eq_false (fun q => q hq2)]
      simp (disch := omega) only [e, hq2, cl2_so, cl1_so, ck_tr, zl_0, zl_1, zl_2, zl_3, zl_4, zl_5, zl_6, zl_7, zl_8, zl_9, zl_10, zl_11, zl_12, zl_15, zl_16, zl_20, zl_24, zl_25, zl_30, zl_31, zl_32, zl_33, zl_44, zl_48, zl_50, zl_57, zl_59, zl_60, zl_61, zl_62, zl_63, zl_64, zl_68, zl_97, zl_99, zl_100, zl_104, zl_108, zl_114, zl_120, zl_122, zl_126, zl_132, zl_180, zl_181, zl_186, zl_255, zl_900, zl_930, zl_1000, zl_1000000, nI_add, pk_mul, zs_sub, zs_lt, zs_le, zs_eq, zs_inb, zs_cl, zm_eq, zm_eq2, zm_lt, zm_le, mz_lt, mz_le, mm_eq, zs_bit, zs_or1, zs_div, zs_rem, ck_pos, if_pos, if_neg, true_or, or_true, true_and, and_true, false_or, or_false, false_and, and_false, not_true, not_false_iff, if_true, if_false, eq_self, Bool.false_eq_true, cl2_id, Bool.not_true, Bool.not_false]
      rw [ih (k + 1) n q (by omega) (by omega) (by omega)]
      congr 3
      omega
    · rw [decide_eq_true hq2]
      simp (disch := omega) only [e, hq2, cl2_so, cl1_so, ck_tr, zl_0, zl_1, zl_2, zl_3, zl_4, zl_5, zl_6, zl_7, zl_8, zl_9, zl_10, zl_11, zl_12, zl_15, zl_16, zl_20, zl_24, zl_25, zl_30, zl_31, zl_32, zl_33, zl_44, zl_48, zl_50, zl_57, zl_59, zl_60, zl_61, zl_62, zl_63, zl_64, zl_68, zl_97, zl_99, zl_100, zl_104, zl_108, zl_114, zl_120, zl_122, zl_126, zl_132, zl_180, zl_181, zl_186, zl_255, zl_900, zl_930, zl_1000, zl_1000000, nI_add, pk_mul, zs_sub, zs_lt, zs_le, zs_eq, zs_inb, zs_cl, zm_eq, zm_eq2, zm_lt, zm_le, mz_lt, mz_le, mm_eq, zs_bit, zs_or1, zs_div, zs_rem, ck_pos, if_pos, if_neg, true_or, or_true, true_and, and_true, false_or, or_false, false_and, and_false, not_true, not_false_iff, if_true, if_false, eq_self, Bool.false_eq_true, cl2_id, Bool.not_true, Bool.not_false]
      rw [ih (k + 1) n (q + 1) (by omega) (by omega) (by omega)]
      congr 3
      omega
theorem po4 (hO : KO r s) (h : KM m r s) : ∀ j k n q, k + j = 60 → j < n → q ≤ k → fX11_paintedOf_4 n (nI q) (nI k) m = some (nI (q + z_ct (fun i => decide (s i ≠ 25)) k j), m) := by
  intro j
  induction j with
  | zero =>
    intro k n q hk hn hq
    obtain ⟨n, rfl⟩ : ∃ n', n = n' + 1 := ⟨n - 1, by omega⟩
    rw [fX11_paintedOf_4, z_ct]
    simp (disch := omega) only [Nat.add_zero, cl2_so, cl1_so, ck_tr, zl_0, zl_1, zl_2, zl_3, zl_4, zl_5, zl_6, zl_7, zl_8, zl_9, zl_10, zl_11, zl_12, zl_15, zl_16, zl_20, zl_24, zl_25, zl_30, zl_31, zl_32, zl_33, zl_44, zl_48, zl_50, zl_57, zl_59, zl_60, zl_61, zl_62, zl_63, zl_64, zl_68, zl_97, zl_99, zl_100, zl_104, zl_108, zl_114, zl_120, zl_122, zl_126, zl_132, zl_180, zl_181, zl_186, zl_255, zl_900, zl_930, zl_1000, zl_1000000, nI_add, pk_mul, zs_sub, zs_lt, zs_le, zs_eq, zs_inb, zs_cl, zm_eq, zm_eq2, zm_lt, zm_le, mz_lt, mz_le, mm_eq, zs_bit, zs_or1, zs_div, zs_rem, ck_pos, if_pos, if_neg, true_or, or_true, true_and, and_true, false_or, or_false, false_and, and_false, not_true, not_false_iff, if_true, if_false, eq_self, Bool.false_eq_true, cl2_id, Bool.not_true, Bool.not_false]
  | succ j ih =>
    intro k n q hk hn hq
    obtain ⟨n, rfl⟩ : ∃ n', n = n' + 1 := ⟨n - 1, by omega⟩
    rw [fX11_paintedOf_4, z_ct]
    have e := h.2.2 k (by omega)
    have h25 := hO.2.1 k (by omega)
    unfold fX11_paintedOf_27
    by_cases hq2 : s k = 25
    · rw [decide_eq_false (fun q => q hq2)]
      simp (disch := omega) only [e, hq2, cl2_so, cl1_so, ck_tr, zl_0, zl_1, zl_2, zl_3, zl_4, zl_5, zl_6, zl_7, zl_8, zl_9, zl_10, zl_11, zl_12, zl_15, zl_16, zl_20, zl_24, zl_25, zl_30, zl_31, zl_32, zl_33, zl_44, zl_48, zl_50, zl_57, zl_59, zl_60, zl_61, zl_62, zl_63, zl_64, zl_68, zl_97, zl_99, zl_100, zl_104, zl_108, zl_114, zl_120, zl_122, zl_126, zl_132, zl_180, zl_181, zl_186, zl_255, zl_900, zl_930, zl_1000, zl_1000000, nI_add, pk_mul, zs_sub, zs_lt, zs_le, zs_eq, zs_inb, zs_cl, zm_eq, zm_eq2, zm_lt, zm_le, mz_lt, mz_le, mm_eq, zs_bit, zs_or1, zs_div, zs_rem, ck_pos, if_pos, if_neg, true_or, or_true, true_and, and_true, false_or, or_false, false_and, and_false, not_true, not_false_iff, if_true, if_false, eq_self, Bool.false_eq_true, cl2_id, Bool.not_true, Bool.not_false]
      rw [ih (k + 1) n (q + 0) (by omega) (by omega) (by omega)]
      congr 3
      omega
    · rw [decide_eq_true hq2]
      simp (disch := omega) only [e, hq2, cl2_so, cl1_so, ck_tr, zl_0, zl_1, zl_2, zl_3, zl_4, zl_5, zl_6, zl_7, zl_8, zl_9, zl_10, zl_11, zl_12, zl_15, zl_16, zl_20, zl_24, zl_25, zl_30, zl_31, zl_32, zl_33, zl_44, zl_48, zl_50, zl_57, zl_59, zl_60, zl_61, zl_62, zl_63, zl_64, zl_68, zl_97, zl_99, zl_100, zl_104, zl_108, zl_114, zl_120, zl_122, zl_126, zl_132, zl_180, zl_181, zl_186, zl_255, zl_900, zl_930, zl_1000, zl_1000000, nI_add, pk_mul, zs_sub, zs_lt, zs_le, zs_eq, zs_inb, zs_cl, zm_eq, zm_eq2, zm_lt, zm_le, mz_lt, mz_le, mm_eq, zs_bit, zs_or1, zs_div, zs_rem, ck_pos, if_pos, if_neg, true_or, or_true, true_and, and_true, false_or, or_false, false_and, and_false, not_true, not_false_iff, if_true, if_false, eq_self, Bool.false_eq_true, cl2_id, Bool.not_true, Bool.not_false]
      rw [ih (k + 1) n (q + 1) (by omega) (by omega) (by omega)]
      congr 3
      omega
theorem KC.painted (h : KC m t r s) (hO : KO r s) : fX5_countPainted 81 m = some (nI (z_ct (fun i => decide (s i ≠ 25)) 0 60), m) := by
  have e := cp4 hO h 60 0 FU 0 (by omega) (FU_pos (by omega)) (by omega)
  rw [Nat.zero_add, pc_ct hO (fun x => decide (x ≠ 25)) (by decide)] at e
  exact e
theorem KM.painted (h : KM m r s) (hO : KO r s) : fX11_paintedOf m = some (nI (z_ct (fun i => decide (s i ≠ 25)) 0 60), m) := by
  have e := po4 hO h 60 0 FU 0 (by omega) (FU_pos (by omega)) (by omega)
  rw [Nat.zero_add] at e
  exact e
theorem b_painted (hI : Inv m) (hC : JC m H r s) (hM : JM m H r s) (hO : JO H r s) : Both fX10_painted fX11_painted m := by
  cases H
  · refine ⟨-nI 1, 1, ?_, fun m1 h1 => ?_⟩
    · have e : m.1 0 4 = nI 0 := hC.1
      unfold fX10_painted fX10_painted_26
      simp (disch := omega) only [e, cl2_so, cl1_so, ck_tr, zl_0, zl_1, zl_2, zl_3, zl_4, zl_5, zl_6, zl_7, zl_8, zl_9, zl_10, zl_11, zl_12, zl_15, zl_16, zl_20, zl_24, zl_25, zl_30, zl_31, zl_32, zl_33, zl_44, zl_48, zl_50, zl_57, zl_59, zl_60, zl_61, zl_62, zl_63, zl_64, zl_68, zl_97, zl_99, zl_100, zl_104, zl_108, zl_114, zl_120, zl_122, zl_126, zl_132, zl_180, zl_181, zl_186, zl_255, zl_900, zl_930, zl_1000, zl_1000000, nI_add, pk_mul, zs_sub, zs_lt, zs_le, zs_eq, zs_inb, zs_cl, zm_eq, zm_eq2, zm_lt, zm_le, mz_lt, mz_le, mm_eq, zs_bit, zs_or1, zs_div, zs_rem, ck_pos, if_pos, if_neg, true_or, or_true, true_and, and_true, false_or, or_false, false_and, and_false, not_true, not_false_iff, if_true, if_false, eq_self, Bool.false_eq_true, cl2_id, Bool.not_true, Bool.not_false]
      exact ansC_no 1 (Ak.rf m)
    · have hM1 := hM.ag (h1.agC.tr (gd_ak m1).agM)
      have e : (gdM m1).1 138 14 = nI 0 := hM1.1
      unfold fX11_painted fX11_painted_23
      simp (disch := omega) only [gd_e, e, cl2_so, cl1_so, ck_tr, zl_0, zl_1, zl_2, zl_3, zl_4, zl_5, zl_6, zl_7, zl_8, zl_9, zl_10, zl_11, zl_12, zl_15, zl_16, zl_20, zl_24, zl_25, zl_30, zl_31, zl_32, zl_33, zl_44, zl_48, zl_50, zl_57, zl_59, zl_60, zl_61, zl_62, zl_63, zl_64, zl_68, zl_97, zl_99, zl_100, zl_104, zl_108, zl_114, zl_120, zl_122, zl_126, zl_132, zl_180, zl_181, zl_186, zl_255, zl_900, zl_930, zl_1000, zl_1000000, nI_add, pk_mul, zs_sub, zs_lt, zs_le, zs_eq, zs_inb, zs_cl, zm_eq, zm_eq2, zm_lt, zm_le, mz_lt, mz_le, mm_eq, zs_bit, zs_or1, zs_div, zs_rem, ck_pos, if_pos, if_neg, true_or, or_true, true_and, and_true, false_or, or_false, false_and, and_false, not_true, not_false_iff, if_true, if_false, eq_self, Bool.false_eq_true, cl2_id, Bool.not_true, Bool.not_false]
      exact ansM_no 1 (gd_ak m1)
  · have hK : KO r s := hO rfl
    refine ⟨nI (z_ct (fun i => decide (s i ≠ 25)) 0 60), 0, ?_, fun m1 h1 => ?_⟩
    · have e0 : m.1 0 4 = nI 1 := hC.1
      unfold fX10_painted fX10_painted_26
      simp (disch := omega) only [e0, (hC.kc hI).painted hK, cl2_so, cl1_so, ck_tr, zl_0, zl_1, zl_2, zl_3, zl_4, zl_5, zl_6, zl_7, zl_8, zl_9, zl_10, zl_11, zl_12, zl_15, zl_16, zl_20, zl_24, zl_25, zl_30, zl_31, zl_32, zl_33, zl_44, zl_48, zl_50, zl_57, zl_59, zl_60, zl_61, zl_62, zl_63, zl_64, zl_68, zl_97, zl_99, zl_100, zl_104, zl_108, zl_114, zl_120, zl_122, zl_126, zl_132, zl_180, zl_181, zl_186, zl_255, zl_900, zl_930, zl_1000, zl_1000000, nI_add, pk_mul, zs_sub, zs_lt, zs_le, zs_eq, zs_inb, zs_cl, zm_eq, zm_eq2, zm_lt, zm_le, mz_lt, mz_le, mm_eq, zs_bit, zs_or1, zs_div, zs_rem, ck_pos, if_pos, if_neg, true_or, or_true, true_and, and_true, false_or, or_false, false_and, and_false, not_true, not_false_iff, if_true, if_false, eq_self, Bool.false_eq_true, cl2_id, Bool.not_true, Bool.not_false]
      exact ansC_ok _ (Ak.rf m)
    · have hM1 := hM.ag (h1.agC.tr (gd_ak m1).agM)
      have e0 : (gdM m1).1 138 14 = nI 1 := hM1.1
      unfold fX11_painted fX11_painted_23
      simp (disch := omega) only [gd_e, e0, hM1.km.painted hK, cl2_so, cl1_so, ck_tr, zl_0, zl_1, zl_2, zl_3, zl_4, zl_5, zl_6, zl_7, zl_8, zl_9, zl_10, zl_11, zl_12, zl_15, zl_16, zl_20, zl_24, zl_25, zl_30, zl_31, zl_32, zl_33, zl_44, zl_48, zl_50, zl_57, zl_59, zl_60, zl_61, zl_62, zl_63, zl_64, zl_68, zl_97, zl_99, zl_100, zl_104, zl_108, zl_114, zl_120, zl_122, zl_126, zl_132, zl_180, zl_181, zl_186, zl_255, zl_900, zl_930, zl_1000, zl_1000000, nI_add, pk_mul, zs_sub, zs_lt, zs_le, zs_eq, zs_inb, zs_cl, zm_eq, zm_eq2, zm_lt, zm_le, mz_lt, mz_le, mm_eq, zs_bit, zs_or1, zs_div, zs_rem, ck_pos, if_pos, if_neg, true_or, or_true, true_and, and_true, false_or, or_false, false_and, and_false, not_true, not_false_iff, if_true, if_false, eq_self, Bool.false_eq_true, cl2_id, Bool.not_true, Bool.not_false]
      exact ansM_ok _ (gd_ak m1) (gd_11 m1)
theorem b_cost (hI : Inv m) (hC : JC m H r s) (hM : JM m H r s) (hO : JO H r s) : Both fX10_cost fX11_cost m := by
  cases H
  · refine ⟨-nI 1, 1, ?_, fun m1 h1 => ?_⟩
    · have e : m.1 0 4 = nI 0 := hC.1
      unfold fX10_cost fX10_cost_34
      simp (disch := omega) only [e, cl2_so, cl1_so, ck_tr, zl_0, zl_1, zl_2, zl_3, zl_4, zl_5, zl_6, zl_7, zl_8, zl_9, zl_10, zl_11, zl_12, zl_15, zl_16, zl_20, zl_24, zl_25, zl_30, zl_31, zl_32, zl_33, zl_44, zl_48, zl_50, zl_57, zl_59, zl_60, zl_61, zl_62, zl_63, zl_64, zl_68, zl_97, zl_99, zl_100, zl_104, zl_108, zl_114, zl_120, zl_122, zl_126, zl_132, zl_180, zl_181, zl_186, zl_255, zl_900, zl_930, zl_1000, zl_1000000, nI_add, pk_mul, zs_sub, zs_lt, zs_le, zs_eq, zs_inb, zs_cl, zm_eq, zm_eq2, zm_lt, zm_le, mz_lt, mz_le, mm_eq, zs_bit, zs_or1, zs_div, zs_rem, ck_pos, if_pos, if_neg, true_or, or_true, true_and, and_true, false_or, or_false, false_and, and_false, not_true, not_false_iff, if_true, if_false, eq_self, Bool.false_eq_true, cl2_id, Bool.not_true, Bool.not_false]
      exact ansC_no 1 (Ak.rf m)
    · have hM1 := hM.ag (h1.agC.tr (gd_ak m1).agM)
      have e : (gdM m1).1 138 14 = nI 0 := hM1.1
      unfold fX11_cost fX11_cost_30
      simp (disch := omega) only [gd_e, e, cl2_so, cl1_so, ck_tr, zl_0, zl_1, zl_2, zl_3, zl_4, zl_5, zl_6, zl_7, zl_8, zl_9, zl_10, zl_11, zl_12, zl_15, zl_16, zl_20, zl_24, zl_25, zl_30, zl_31, zl_32, zl_33, zl_44, zl_48, zl_50, zl_57, zl_59, zl_60, zl_61, zl_62, zl_63, zl_64, zl_68, zl_97, zl_99, zl_100, zl_104, zl_108, zl_114, zl_120, zl_122, zl_126, zl_132, zl_180, zl_181, zl_186, zl_255, zl_900, zl_930, zl_1000, zl_1000000, nI_add, pk_mul, zs_sub, zs_lt, zs_le, zs_eq, zs_inb, zs_cl, zm_eq, zm_eq2, zm_lt, zm_le, mz_lt, mz_le, mm_eq, zs_bit, zs_or1, zs_div, zs_rem, ck_pos, if_pos, if_neg, true_or, or_true, true_and, and_true, false_or, or_false, false_and, and_false, not_true, not_false_iff, if_true, if_false, eq_self, Bool.false_eq_true, cl2_id, Bool.not_true, Bool.not_false]
      exact ansM_no 1 (gd_ak m1)
  · have hK : KO r s := hO rfl
    refine ⟨nI (r 2 * z_ct (fun i => decide (s i ≠ 25)) 0 60), 0, ?_, fun m1 h1 => ?_⟩
    · have e0 : m.1 0 4 = nI 1 := hC.1
      have e2 := (hC.2 rfl).1.2.1.1
      unfold fX10_cost fX10_cost_34
      simp (disch := omega) only [e0, (hC.kc hI).painted hK, e2, cl2_so, cl1_so, ck_tr, zl_0, zl_1, zl_2, zl_3, zl_4, zl_5, zl_6, zl_7, zl_8, zl_9, zl_10, zl_11, zl_12, zl_15, zl_16, zl_20, zl_24, zl_25, zl_30, zl_31, zl_32, zl_33, zl_44, zl_48, zl_50, zl_57, zl_59, zl_60, zl_61, zl_62, zl_63, zl_64, zl_68, zl_97, zl_99, zl_100, zl_104, zl_108, zl_114, zl_120, zl_122, zl_126, zl_132, zl_180, zl_181, zl_186, zl_255, zl_900, zl_930, zl_1000, zl_1000000, nI_add, pk_mul, zs_sub, zs_lt, zs_le, zs_eq, zs_inb, zs_cl, zm_eq, zm_eq2, zm_lt, zm_le, mz_lt, mz_le, mm_eq, zs_bit, zs_or1, zs_div, zs_rem, ck_pos, if_pos, if_neg, true_or, or_true, true_and, and_true, false_or, or_false, false_and, and_false, not_true, not_false_iff, if_true, if_false, eq_self, Bool.false_eq_true, cl2_id, Bool.not_true, Bool.not_false]
      exact ansC_ok _ (Ak.rf m)
    · have hM1 := hM.ag (h1.agC.tr (gd_ak m1).agM)
      have e0 : (gdM m1).1 138 14 = nI 1 := hM1.1
      unfold fX11_cost fX11_cost_30
      simp (disch := omega) only [gd_e, e0, hM1.km.painted hK, hM1.km.2.1 2 (by omega), cl2_so, cl1_so, ck_tr, zl_0, zl_1, zl_2, zl_3, zl_4, zl_5, zl_6, zl_7, zl_8, zl_9, zl_10, zl_11, zl_12, zl_15, zl_16, zl_20, zl_24, zl_25, zl_30, zl_31, zl_32, zl_33, zl_44, zl_48, zl_50, zl_57, zl_59, zl_60, zl_61, zl_62, zl_63, zl_64, zl_68, zl_97, zl_99, zl_100, zl_104, zl_108, zl_114, zl_120, zl_122, zl_126, zl_132, zl_180, zl_181, zl_186, zl_255, zl_900, zl_930, zl_1000, zl_1000000, nI_add, pk_mul, zs_sub, zs_lt, zs_le, zs_eq, zs_inb, zs_cl, zm_eq, zm_eq2, zm_lt, zm_le, mz_lt, mz_le, mm_eq, zs_bit, zs_or1, zs_div, zs_rem, ck_pos, if_pos, if_neg, true_or, or_true, true_and, and_true, false_or, or_false, false_and, and_false, not_true, not_false_iff, if_true, if_false, eq_self, Bool.false_eq_true, cl2_id, Bool.not_true, Bool.not_false]
      exact ansM_ok _ (gd_ak m1) (gd_11 m1)
theorem within2 {n : Nat} {x : Int32} (hn : n < 999) : fX11_within x (nI 0) (nI n) m = some (nI (if vN true (n + 1) x then 1 else 0), m) := by
  have e := within_n (m := m) (x := x) (n := n + 1) (by omega)
  rw [zs_sub (by omega)] at e
  exact e
theorem b_wish (hI : Inv m) (hC : JC m H r s) (hM : JM m H r s) (hO : JO H r s) : Both (fX10_wish x1 x2) (fX11_wish x1 x2) m := by
  cases hv : vN H (r 6) x1
  · refine ⟨-nI 1, 1, ?_, fun m1 h1 => ?_⟩
    · unfold fX10_wish fX10_wish_17
      simp (disch := omega) only [fX10_noWish_e hC, hv, cl2_so, cl1_so, ck_tr, zl_0, zl_1, zl_2, zl_3, zl_4, zl_5, zl_6, zl_7, zl_8, zl_9, zl_10, zl_11, zl_12, zl_15, zl_16, zl_20, zl_24, zl_25, zl_30, zl_31, zl_32, zl_33, zl_44, zl_48, zl_50, zl_57, zl_59, zl_60, zl_61, zl_62, zl_63, zl_64, zl_68, zl_97, zl_99, zl_100, zl_104, zl_108, zl_114, zl_120, zl_122, zl_126, zl_132, zl_180, zl_181, zl_186, zl_255, zl_900, zl_930, zl_1000, zl_1000000, nI_add, pk_mul, zs_sub, zs_lt, zs_le, zs_eq, zs_inb, zs_cl, zm_eq, zm_eq2, zm_lt, zm_le, mz_lt, mz_le, mm_eq, zs_bit, zs_or1, zs_div, zs_rem, ck_pos, if_pos, if_neg, true_or, or_true, true_and, and_true, false_or, or_false, false_and, and_false, not_true, not_false_iff, if_true, if_false, eq_self, Bool.false_eq_true, cl2_id, Bool.not_true, Bool.not_false]
      exact ansC_no 1 (Ak.rf m)
    · have hM1 := hM.ag (h1.agC.tr (gd_ak m1).agM)
      unfold fX11_wish fX11_wish_21
      simp (disch := omega) only [gd_e, fX11_isWish_e hM1 hO, hv, cl2_so, cl1_so, ck_tr, zl_0, zl_1, zl_2, zl_3, zl_4, zl_5, zl_6, zl_7, zl_8, zl_9, zl_10, zl_11, zl_12, zl_15, zl_16, zl_20, zl_24, zl_25, zl_30, zl_31, zl_32, zl_33, zl_44, zl_48, zl_50, zl_57, zl_59, zl_60, zl_61, zl_62, zl_63, zl_64, zl_68, zl_97, zl_99, zl_100, zl_104, zl_108, zl_114, zl_120, zl_122, zl_126, zl_132, zl_180, zl_181, zl_186, zl_255, zl_900, zl_930, zl_1000, zl_1000000, nI_add, pk_mul, zs_sub, zs_lt, zs_le, zs_eq, zs_inb, zs_cl, zm_eq, zm_eq2, zm_lt, zm_le, mz_lt, mz_le, mm_eq, zs_bit, zs_or1, zs_div, zs_rem, ck_pos, if_pos, if_neg, true_or, or_true, true_and, and_true, false_or, or_false, false_and, and_false, not_true, not_false_iff, if_true, if_false, eq_self, Bool.false_eq_true, cl2_id, Bool.not_true, Bool.not_false]
      exact ansM_no 1 (gd_ak m1)
  · have hH := vN_H hv
    subst hH
    have hK : KO r s := hO rfl
    have h6 := hK.1.2.2.2.2.1
    obtain ⟨i, hi, rfl⟩ := vN_in (hK.1.2.1 6 (by decide)) hv
    have ht := (hC.kc hI).tt
    obtain ⟨q1, q2, q3⟩ := (hC.kc hI).wish hi
    have q4 := q1.1
    rw [z_wish_len] at q4
    have ew : ∀ m1, fX11_within x2 (nI 0) (nI 2) m1 = some (nI (if vN true 3 x2 then 1 else 0), m1) := fun m1 => within2 (n := 2) (by omega)
    cases hp : vN true 3 x2
    · have hp' : x2 < nI 0 ∨ ¬ x2 ≤ nI 2 := by
        by_cases hx : x2 < 0
        · exact Or.inl hx
        · refine Or.inr (fun q => ?_)
          obtain ⟨k, hk, rfl⟩ := nI_of hx
          rw [zs_le (by omega) (by omega)] at q
          unfold vN at hp
          rw [Bool.true_and, decide_eq_false_iff_not] at hp
          exact hp ⟨nI_pos' hk, (nI_ltI hk (by omega)).mpr (by omega)⟩
      refine ⟨-nI 1, 1, ?_, fun m1 h1 => ?_⟩
      · unfold fX10_wish fX10_wish_17
        rcases hp' with hx | hx
        · simp (disch := omega) only [fX10_noWish_e hC, hv, hx, cl2_so, cl1_so, ck_tr, zl_0, zl_1, zl_2, zl_3, zl_4, zl_5, zl_6, zl_7, zl_8, zl_9, zl_10, zl_11, zl_12, zl_15, zl_16, zl_20, zl_24, zl_25, zl_30, zl_31, zl_32, zl_33, zl_44, zl_48, zl_50, zl_57, zl_59, zl_60, zl_61, zl_62, zl_63, zl_64, zl_68, zl_97, zl_99, zl_100, zl_104, zl_108, zl_114, zl_120, zl_122, zl_126, zl_132, zl_180, zl_181, zl_186, zl_255, zl_900, zl_930, zl_1000, zl_1000000, nI_add, pk_mul, zs_sub, zs_lt, zs_le, zs_eq, zs_inb, zs_cl, zm_eq, zm_eq2, zm_lt, zm_le, mz_lt, mz_le, mm_eq, zs_bit, zs_or1, zs_div, zs_rem, ck_pos, if_pos, if_neg, true_or, or_true, true_and, and_true, false_or, or_false, false_and, and_false, not_true, not_false_iff, if_true, if_false, eq_self, Bool.false_eq_true, cl2_id, Bool.not_true, Bool.not_false]
          exact ansC_no 1 (Ak.rf m)
        · simp (disch := omega) only [fX10_noWish_e hC, hv, hx, ite_self, cl2_so, cl1_so, ck_tr, zl_0, zl_1, zl_2, zl_3, zl_4, zl_5, zl_6, zl_7, zl_8, zl_9, zl_10, zl_11, zl_12, zl_15, zl_16, zl_20, zl_24, zl_25, zl_30, zl_31, zl_32, zl_33, zl_44, zl_48, zl_50, zl_57, zl_59, zl_60, zl_61, zl_62, zl_63, zl_64, zl_68, zl_97, zl_99, zl_100, zl_104, zl_108, zl_114, zl_120, zl_122, zl_126, zl_132, zl_180, zl_181, zl_186, zl_255, zl_900, zl_930, zl_1000, zl_1000000, nI_add, pk_mul, zs_sub, zs_lt, zs_le, zs_eq, zs_inb, zs_cl, zm_eq, zm_eq2, zm_lt, zm_le, mz_lt, mz_le, mm_eq, zs_bit, zs_or1, zs_div, zs_rem, ck_pos, if_pos, if_neg, true_or, or_true, true_and, and_true, false_or, or_false, false_and, and_false, not_true, not_false_iff, if_true, if_false, eq_self, Bool.false_eq_true, cl2_id, Bool.not_true, Bool.not_false]
          exact ansC_no 1 (Ak.rf m)
      · have hM1 := hM.ag (h1.agC.tr (gd_ak m1).agM)
        unfold fX11_wish fX11_wish_21
        simp (disch := omega) only [gd_e, fX11_isWish_e hM1 hO, hv, ew, hp, cl2_so, cl1_so, ck_tr, zl_0, zl_1, zl_2, zl_3, zl_4, zl_5, zl_6, zl_7, zl_8, zl_9, zl_10, zl_11, zl_12, zl_15, zl_16, zl_20, zl_24, zl_25, zl_30, zl_31, zl_32, zl_33, zl_44, zl_48, zl_50, zl_57, zl_59, zl_60, zl_61, zl_62, zl_63, zl_64, zl_68, zl_97, zl_99, zl_100, zl_104, zl_108, zl_114, zl_120, zl_122, zl_126, zl_132, zl_180, zl_181, zl_186, zl_255, zl_900, zl_930, zl_1000, zl_1000000, nI_add, pk_mul, zs_sub, zs_lt, zs_le, zs_eq, zs_inb, zs_cl, zm_eq, zm_eq2, zm_lt, zm_le, mz_lt, mz_le, mm_eq, zs_bit, zs_or1, zs_div, zs_rem, ck_pos, if_pos, if_neg, true_or, or_true, true_and, and_true, false_or, or_false, false_and, and_false, not_true, not_false_iff, if_true, if_false, eq_self, Bool.false_eq_true, cl2_id, Bool.not_true, Bool.not_false]
        exact ansM_no 1 (gd_ak m1)
    · obtain ⟨k, hk, rfl⟩ := vN_in (by omega) hp
      refine ⟨nI (if k = 0 then r (64 + i) else if k = 1 then r (100 + i) else r (104 + i)), 0, ?_, fun m1 h1 => ?_⟩
      · unfold fX10_wish fX10_wish_17 fX10_wish_63
        have hk3 : k = 0 ∨ k = 1 ∨ k = 2 := by omega
        rcases hk3 with rfl | rfl | rfl <;> simp (disch := omega) only [fX10_noWish_e hC, hv, q2, q3, q4, cl2_so, cl1_so, ck_tr, zl_0, zl_1, zl_2, zl_3, zl_4, zl_5, zl_6, zl_7, zl_8, zl_9, zl_10, zl_11, zl_12, zl_15, zl_16, zl_20, zl_24, zl_25, zl_30, zl_31, zl_32, zl_33, zl_44, zl_48, zl_50, zl_57, zl_59, zl_60, zl_61, zl_62, zl_63, zl_64, zl_68, zl_97, zl_99, zl_100, zl_104, zl_108, zl_114, zl_120, zl_122, zl_126, zl_132, zl_180, zl_181, zl_186, zl_255, zl_900, zl_930, zl_1000, zl_1000000, nI_add, pk_mul, zs_sub, zs_lt, zs_le, zs_eq, zs_inb, zs_cl, zm_eq, zm_eq2, zm_lt, zm_le, mz_lt, mz_le, mm_eq, zs_bit, zs_or1, zs_div, zs_rem, ck_pos, if_pos, if_neg, true_or, or_true, true_and, and_true, false_or, or_false, false_and, and_false, not_true, not_false_iff, if_true, if_false, eq_self, Bool.false_eq_true, cl2_id, Bool.not_true, Bool.not_false] <;> exact ansC_ok _ (Ak.rf m)
      · have hM1 := hM.ag (h1.agC.tr (gd_ak m1).agM)
        unfold fX11_wish fX11_wish_21 fX11_wish_69
        have e1 := hM1.km.2.1 (64 + i) (by omega)
        have e2 := hM1.km.2.1 (100 + i) (by omega)
        have e3 := hM1.km.2.1 (104 + i) (by omega)
        have hk3 : k = 0 ∨ k = 1 ∨ k = 2 := by omega
        rcases hk3 with rfl | rfl | rfl <;> simp (disch := omega) only [gd_e, fX11_isWish_e hM1 hO, hv, ew, hp, e1, e2, e3, cl2_so, cl1_so, ck_tr, zl_0, zl_1, zl_2, zl_3, zl_4, zl_5, zl_6, zl_7, zl_8, zl_9, zl_10, zl_11, zl_12, zl_15, zl_16, zl_20, zl_24, zl_25, zl_30, zl_31, zl_32, zl_33, zl_44, zl_48, zl_50, zl_57, zl_59, zl_60, zl_61, zl_62, zl_63, zl_64, zl_68, zl_97, zl_99, zl_100, zl_104, zl_108, zl_114, zl_120, zl_122, zl_126, zl_132, zl_180, zl_181, zl_186, zl_255, zl_900, zl_930, zl_1000, zl_1000000, nI_add, pk_mul, zs_sub, zs_lt, zs_le, zs_eq, zs_inb, zs_cl, zm_eq, zm_eq2, zm_lt, zm_le, mz_lt, mz_le, mm_eq, zs_bit, zs_or1, zs_div, zs_rem, ck_pos, if_pos, if_neg, true_or, or_true, true_and, and_true, false_or, or_false, false_and, and_false, not_true, not_false_iff, if_true, if_false, eq_self, Bool.false_eq_true, cl2_id, Bool.not_true, Bool.not_false] <;> exact ansM_ok _ (gd_ak m1) (gd_11 m1)
end C9
