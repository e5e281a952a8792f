/-! tokens, as the reference reads them -/
def kM (κ : Nat) : Nat := if κ = 0 then 0 else if κ = 1 then 2 else if κ = 2 then 3 else if κ = 3 then 59 else if κ = 4 then 44 else 1
def wv (b : Nat → Nat) (a : Nat) : Nat → Nat
  | 0 => 0
  | n + 1 => 10 * wv b a n + (b (a + n) - 48)
theorem wv_lt {b : Nat → Nat} {a : Nat} : ∀ n, (∀ k, k < n → 48 ≤ b (a + k) ∧ b (a + k) ≤ 57) → wv b a n < 10 ^ n
  | 0, _ => Nat.one_pos
  | n + 1, h => by
    have h1 := wv_lt n (fun k hk => h k (by omega))
    have h2 := h n (by omega)
    rw [wv, Nat.pow_succ]
    omega
def XM (m : Me) (N : Nat) (b : Nat → Nat) : Prop := N ≤ 900 ∧ m.1 138 3 = nI N ∧ ∀ k, k < N → b k < 256 ∧ m.1 139 k = nI (b k)
def TM (m : Me) (b : Nat → Nat) (a n κ : Nat) : Prop := m.1 138 4 = nI a ∧ m.1 138 5 = nI (a + n) ∧ m.1 138 6 = nI (kM κ) ∧ (κ = 1 → m.1 138 8 = nI n ∧ ∀ k, k < n → m.1 140 k = nI (b (a + k))) ∧ (κ = 2 → m.1 138 7 = nI (wv b a n))
def Gm (m m' : Me) : Prop := (∀ x j, x ≠ 140 → ¬ (x = 138 ∧ 4 ≤ j ∧ j ≤ 8) → m'.1 x j = m.1 x j) ∧ m'.2 = m.2
theorem Gm.rf (m : Me) : Gm m m := ⟨fun _ _ _ _ => rfl, rfl⟩
theorem Gm.tr {m m' m'' : Me} (h : Gm m m') (h' : Gm m' m'') : Gm m m'' := ⟨fun x j q z => (h'.1 x j q z).trans (h.1 x j q z), h'.2.trans h.2⟩
theorem Gm.set {m m' : Me} (h : Gm m m') {j : Nat} (v : Int32) (hj : 4 ≤ j ∧ j ≤ 8) : Gm m (setI m' 138 j v) := ⟨fun x k q z => by rw [sI_1, if_neg (by omega)]; exact h.1 x k q z, h.2⟩
theorem Gm.set9 {m m' : Me} (h : Gm m m') {j : Nat} (v : Int32) : Gm m (setI m' 140 j v) := ⟨fun x k q z => by rw [sI_na q]; exact h.1 x k q z, h.2⟩
theorem XM.fm {m m' : Me} {N : Nat} {b : Nat → Nat} (h : XM m N b) (e : Gm m m') : XM m' N b := ⟨h.1, (e.1 138 3 (by omega) (by omega)).trans h.2.1, fun k hk => ⟨(h.2.2 k hk).1, (e.1 139 k (by omega) (by omega)).trans (h.2.2 k hk).2⟩⟩
section TOKM
variable {N : Nat} {b : Nat → Nat} {m : Me}
theorem lk_in (h : XM m N b) {k : Nat} (hk : k < N) : fX11_look (nI k) m = some (nI (b k), m) := by
  obtain ⟨hN, h1, ht⟩ := h
  unfold fX11_look fX11_look_18
  simp (disch := omega) only [h1, (ht k hk).2, cl2_so, cl1_so, ck_tr, zl_0, zl_1, zl_2, zl_3, zl_4, zl_5, zl_6, zl_7, zl_8, zl_9, zl_10, zl_11, zl_12, zl_15, zl_16, zl_20, zl_24, zl_25, zl_30, zl_31, zl_32, zl_33, zl_44, zl_48, zl_50, zl_57, zl_59, zl_60, zl_61, zl_62, zl_63, zl_64, zl_68, zl_97, zl_99, zl_100, zl_104, zl_108, zl_114, zl_120, zl_122, zl_126, zl_132, zl_180, zl_181, zl_186, zl_255, zl_900, zl_930, zl_1000, zl_1000000, nI_add, pk_mul, zs_sub, zs_lt, zs_le, zs_eq, zs_inb, zs_cl, zm_eq, zm_eq2, zm_lt, zm_le, mz_lt, mz_le, mm_eq, zs_bit, zs_or1, zs_div, zs_rem, ck_pos, if_pos, if_neg, true_or, or_true, true_and, and_true, false_or, or_false, false_and, and_false, not_true, not_false_iff, if_true, if_false, eq_self, Bool.false_eq_true, cl2_id, Bool.not_true, Bool.not_false]
theorem lk_out (h : XM m N b) {k : Nat} (hk : N ≤ k) (hk2 : k ≤ 900) : fX11_look (nI k) m = some (-nI 1, m) := by
  obtain ⟨hN, h1, ht⟩ := h
  unfold fX11_look fX11_look_18
  simp (disch := omega) only [h1, cl2_so, cl1_so, ck_tr, zl_0, zl_1, zl_2, zl_3, zl_4, zl_5, zl_6, zl_7, zl_8, zl_9, zl_10, zl_11, zl_12, zl_15, zl_16, zl_20, zl_24, zl_25, zl_30, zl_31, zl_32, zl_33, zl_44, zl_48, zl_50, zl_57, zl_59, zl_60, zl_61, zl_62, zl_63, zl_64, zl_68, zl_97, zl_99, zl_100, zl_104, zl_108, zl_114, zl_120, zl_122, zl_126, zl_132, zl_180, zl_181, zl_186, zl_255, zl_900, zl_930, zl_1000, zl_1000000, nI_add, pk_mul, zs_sub, zs_lt, zs_le, zs_eq, zs_inb, zs_cl, zm_eq, zm_eq2, zm_lt, zm_le, mz_lt, mz_le, mm_eq, zs_bit, zs_or1, zs_div, zs_rem, ck_pos, if_pos, if_neg, true_or, or_true, true_and, and_true, false_or, or_false, false_and, and_false, not_true, not_false_iff, if_true, if_false, eq_self, Bool.false_eq_true, cl2_id, Bool.not_true, Bool.not_false]
theorem sm_1 {c : Nat} (h : 97 ≤ c ∧ c ≤ 122) : fX11_isSmall (nI c) m = some (nI 1, m) := by
  unfold fX11_isSmall fX11_isSmall_16 fX11_isSmall_17
  simp (disch := omega) only [cl2_so, cl1_so, ck_tr, zl_0, zl_1, zl_2, zl_3, zl_4, zl_5, zl_6, zl_7, zl_8, zl_9, zl_10, zl_11, zl_12, zl_15, zl_16, zl_20, zl_24, zl_25, zl_30, zl_31, zl_32, zl_33, zl_44, zl_48, zl_50, zl_57, zl_59, zl_60, zl_61, zl_62, zl_63, zl_64, zl_68, zl_97, zl_99, zl_100, zl_104, zl_108, zl_114, zl_120, zl_122, zl_126, zl_132, zl_180, zl_181, zl_186, zl_255, zl_900, zl_930, zl_1000, zl_1000000, nI_add, pk_mul, zs_sub, zs_lt, zs_le, zs_eq, zs_inb, zs_cl, zm_eq, zm_eq2, zm_lt, zm_le, mz_lt, mz_le, mm_eq, zs_bit, zs_or1, zs_div, zs_rem, ck_pos, if_pos, if_neg, true_or, or_true, true_and, and_true, false_or, or_false, false_and, and_false, not_true, not_false_iff, if_true, if_false, eq_self, Bool.false_eq_true, cl2_id, Bool.not_true, Bool.not_false]
theorem sm_0 {c : Nat} (hc : c < 256) (h : ¬ (97 ≤ c ∧ c ≤ 122)) : fX11_isSmall (nI c) m = some (nI 0, m) := by
  unfold fX11_isSmall fX11_isSmall_16 fX11_isSmall_17
  by_cases q : c < 97
  · simp (disch := omega) only [q, cl2_so, cl1_so, ck_tr, zl_0, zl_1, zl_2, zl_3, zl_4, zl_5, zl_6, zl_7, zl_8, zl_9, zl_10, zl_11, zl_12, zl_15, zl_16, zl_20, zl_24, zl_25, zl_30, zl_31, zl_32, zl_33, zl_44, zl_48, zl_50, zl_57, zl_59, zl_60, zl_61, zl_62, zl_63, zl_64, zl_68, zl_97, zl_99, zl_100, zl_104, zl_108, zl_114, zl_120, zl_122, zl_126, zl_132, zl_180, zl_181, zl_186, zl_255, zl_900, zl_930, zl_1000, zl_1000000, nI_add, pk_mul, zs_sub, zs_lt, zs_le, zs_eq, zs_inb, zs_cl, zm_eq, zm_eq2, zm_lt, zm_le, mz_lt, mz_le, mm_eq, zs_bit, zs_or1, zs_div, zs_rem, ck_pos, if_pos, if_neg, true_or, or_true, true_and, and_true, false_or, or_false, false_and, and_false, not_true, not_false_iff, if_true, if_false, eq_self, Bool.false_eq_true, cl2_id, Bool.not_true, Bool.not_false]
  · simp (disch := omega) only [q, cl2_so, cl1_so, ck_tr, zl_0, zl_1, zl_2, zl_3, zl_4, zl_5, zl_6, zl_7, zl_8, zl_9, zl_10, zl_11, zl_12, zl_15, zl_16, zl_20, zl_24, zl_25, zl_30, zl_31, zl_32, zl_33, zl_44, zl_48, zl_50, zl_57, zl_59, zl_60, zl_61, zl_62, zl_63, zl_64, zl_68, zl_97, zl_99, zl_100, zl_104, zl_108, zl_114, zl_120, zl_122, zl_126, zl_132, zl_180, zl_181, zl_186, zl_255, zl_900, zl_930, zl_1000, zl_1000000, nI_add, pk_mul, zs_sub, zs_lt, zs_le, zs_eq, zs_inb, zs_cl, zm_eq, zm_eq2, zm_lt, zm_le, mz_lt, mz_le, mm_eq, zs_bit, zs_or1, zs_div, zs_rem, ck_pos, if_pos, if_neg, true_or, or_true, true_and, and_true, false_or, or_false, false_and, and_false, not_true, not_false_iff, if_true, if_false, eq_self, Bool.false_eq_true, cl2_id, Bool.not_true, Bool.not_false]
theorem sm_n : fX11_isSmall (-nI 1) m = some (nI 0, m) := rfl
theorem dg_1 {c : Nat} (h : 48 ≤ c ∧ c ≤ 57) : fX11_isDigit (nI c) m = some (nI 1, m) := by
  unfold fX11_isDigit fX11_isDigit_16 fX11_isDigit_17
  simp (disch := omega) only [cl2_so, cl1_so, ck_tr, zl_0, zl_1, zl_2, zl_3, zl_4, zl_5, zl_6, zl_7, zl_8, zl_9, zl_10, zl_11, zl_12, zl_15, zl_16, zl_20, zl_24, zl_25, zl_30, zl_31, zl_32, zl_33, zl_44, zl_48, zl_50, zl_57, zl_59, zl_60, zl_61, zl_62, zl_63, zl_64, zl_68, zl_97, zl_99, zl_100, zl_104, zl_108, zl_114, zl_120, zl_122, zl_126, zl_132, zl_180, zl_181, zl_186, zl_255, zl_900, zl_930, zl_1000, zl_1000000, nI_add, pk_mul, zs_sub, zs_lt, zs_le, zs_eq, zs_inb, zs_cl, zm_eq, zm_eq2, zm_lt, zm_le, mz_lt, mz_le, mm_eq, zs_bit, zs_or1, zs_div, zs_rem, ck_pos, if_pos, if_neg, true_or, or_true, true_and, and_true, false_or, or_false, false_and, and_false, not_true, not_false_iff, if_true, if_false, eq_self, Bool.false_eq_true, cl2_id, Bool.not_true, Bool.not_false]
theorem dg_0 {c : Nat} (hc : c < 256) (h : ¬ (48 ≤ c ∧ c ≤ 57)) : fX11_isDigit (nI c) m = some (nI 0, m) := by
  unfold fX11_isDigit fX11_isDigit_16 fX11_isDigit_17
  by_cases q : c < 48
  · simp (disch := omega) only [q, cl2_so, cl1_so, ck_tr, zl_0, zl_1, zl_2, zl_3, zl_4, zl_5, zl_6, zl_7, zl_8, zl_9, zl_10, zl_11, zl_12, zl_15, zl_16, zl_20, zl_24, zl_25, zl_30, zl_31, zl_32, zl_33, zl_44, zl_48, zl_50, zl_57, zl_59, zl_60, zl_61, zl_62, zl_63, zl_64, zl_68, zl_97, zl_99, zl_100, zl_104, zl_108, zl_114, zl_120, zl_122, zl_126, zl_132, zl_180, zl_181, zl_186, zl_255, zl_900, zl_930, zl_1000, zl_1000000, nI_add, pk_mul, zs_sub, zs_lt, zs_le, zs_eq, zs_inb, zs_cl, zm_eq, zm_eq2, zm_lt, zm_le, mz_lt, mz_le, mm_eq, zs_bit, zs_or1, zs_div, zs_rem, ck_pos, if_pos, if_neg, true_or, or_true, true_and, and_true, false_or, or_false, false_and, and_false, not_true, not_false_iff, if_true, if_false, eq_self, Bool.false_eq_true, cl2_id, Bool.not_true, Bool.not_false]
  · simp (disch := omega) only [q, cl2_so, cl1_so, ck_tr, zl_0, zl_1, zl_2, zl_3, zl_4, zl_5, zl_6, zl_7, zl_8, zl_9, zl_10, zl_11, zl_12, zl_15, zl_16, zl_20, zl_24, zl_25, zl_30, zl_31, zl_32, zl_33, zl_44, zl_48, zl_50, zl_57, zl_59, zl_60, zl_61, zl_62, zl_63, zl_64, zl_68, zl_97, zl_99, zl_100, zl_104, zl_108, zl_114, zl_120, zl_122, zl_126, zl_132, zl_180, zl_181, zl_186, zl_255, zl_900, zl_930, zl_1000, zl_1000000, nI_add, pk_mul, zs_sub, zs_lt, zs_le, zs_eq, zs_inb, zs_cl, zm_eq, zm_eq2, zm_lt, zm_le, mz_lt, mz_le, mm_eq, zs_bit, zs_or1, zs_div, zs_rem, ck_pos, if_pos, if_neg, true_or, or_true, true_and, and_true, false_or, or_false, false_and, and_false, not_true, not_false_iff, if_true, if_false, eq_self, Bool.false_eq_true, cl2_id, Bool.not_true, Bool.not_false]
theorem dg_n : fX11_isDigit (-nI 1) m = some (nI 0, m) := rfl
theorem nx67 {a n1 : Nat} (ha : a + n1 ≤ N) (hr : ∀ k, k < n1 → 97 ≤ b (a + k) ∧ b (a + k) ≤ 122) (hs : a + n1 < N → ¬ (97 ≤ b (a + n1) ∧ b (a + n1) ≤ 122)) : ∀ j q n (m : Me), XM m N b → q + j = n1 → j < n → m.1 138 8 = nI q → (∀ k, k < q → k < 8 → m.1 140 k = nI (b (a + k))) → ∃ m', fX11_next_67 n (nI (a + q)) m = some m' ∧ m'.1 138 5 = nI (a + n1) ∧ m'.1 138 6 = nI (if n1 ≤ 8 then 2 else 1) ∧ m'.1 138 8 = nI n1 ∧ (∀ k, k < n1 → k < 8 → m'.1 140 k = nI (b (a + k))) ∧ (∀ x j, x ≠ 140 → ¬ (x = 138 ∧ (j = 5 ∨ j = 6 ∨ j = 8)) → m'.1 x j = m.1 x j) ∧ m'.2 = m.2 := by
  intro j
  induction j with
  | zero =>
    intro q n m hX hq hn h8 hl
    obtain ⟨n, rfl⟩ : ∃ n', n = n' + 1 := ⟨n - 1, by omega⟩
    obtain rfl : q = n1 := by omega
    have hN := hX.1
    have c8 : (setI m 138 5 (nI (a + q))).1 138 8 = nI q := (sI_nj (by decide)).trans h8
    refine ⟨setI (setI m 138 5 (nI (a + q))) 138 6 (nI (if q ≤ 8 then 2 else 1)), ?_, (sI_nj (by decide)).trans (sI_eq _ _ _ _), sI_eq _ _ _ _, (sI_nj (by decide)).trans c8, fun k k1 k2 => ?_, fun x j z1 z2 => ?_, rfl⟩
    · have fin : (if nI q ≤ (8 : Int32) then fX11_next_137 (2 : Int32) (setI m 138 5 (nI (a + q))) else fX11_next_137 (1 : Int32) (setI m 138 5 (nI (a + q)))) = some (setI (setI m 138 5 (nI (a + q))) 138 6 (nI (if q ≤ 8 then 2 else 1))) := by
        unfold fX11_next_137 fX11_next_247
        by_cases q8 : q ≤ 8
        · rw [if_pos (c := q ≤ 8) q8]
          simp (disch := omega) only [q8, cl2_so, cl1_so, ck_tr, zl_0, zl_1, zl_2, zl_3, zl_4, zl_5, zl_6, zl_7, zl_8, zl_9, zl_10, zl_11, zl_12, zl_15, zl_16, zl_20, zl_24, zl_25, zl_30, zl_31, zl_32, zl_33, zl_44, zl_48, zl_50, zl_57, zl_59, zl_60, zl_61, zl_62, zl_63, zl_64, zl_68, zl_97, zl_99, zl_100, zl_104, zl_108, zl_114, zl_120, zl_122, zl_126, zl_132, zl_180, zl_181, zl_186, zl_255, zl_900, zl_930, zl_1000, zl_1000000, nI_add, pk_mul, zs_sub, zs_lt, zs_le, zs_eq, zs_inb, zs_cl, zm_eq, zm_eq2, zm_lt, zm_le, mz_lt, mz_le, mm_eq, zs_bit, zs_or1, zs_div, zs_rem, ck_pos, if_pos, if_neg, true_or, or_true, true_and, and_true, false_or, or_false, false_and, and_false, not_true, not_false_iff, if_true, if_false, eq_self, Bool.false_eq_true, cl2_id, Bool.not_true, Bool.not_false]
        · rw [if_neg (c := q ≤ 8) q8]
          simp (disch := omega) only [q8, cl2_so, cl1_so, ck_tr, zl_0, zl_1, zl_2, zl_3, zl_4, zl_5, zl_6, zl_7, zl_8, zl_9, zl_10, zl_11, zl_12, zl_15, zl_16, zl_20, zl_24, zl_25, zl_30, zl_31, zl_32, zl_33, zl_44, zl_48, zl_50, zl_57, zl_59, zl_60, zl_61, zl_62, zl_63, zl_64, zl_68, zl_97, zl_99, zl_100, zl_104, zl_108, zl_114, zl_120, zl_122, zl_126, zl_132, zl_180, zl_181, zl_186, zl_255, zl_900, zl_930, zl_1000, zl_1000000, nI_add, pk_mul, zs_sub, zs_lt, zs_le, zs_eq, zs_inb, zs_cl, zm_eq, zm_eq2, zm_lt, zm_le, mz_lt, mz_le, mm_eq, zs_bit, zs_or1, zs_div, zs_rem, ck_pos, if_pos, if_neg, true_or, or_true, true_and, and_true, false_or, or_false, false_and, and_false, not_true, not_false_iff, if_true, if_false, eq_self, Bool.false_eq_true, cl2_id, Bool.not_true, Bool.not_false]
      rw [fX11_next_67]
      by_cases hl : a + q < N
      · rw [lk_in hX hl, cl2_so, sm_0 (hX.2.2 _ hl).1 (hs hl), cl2_so, if_pos (by decide), c8]
        exact fin
      · rw [lk_out hX (by omega) (by omega), cl2_so, sm_n, cl2_so, if_pos (by decide), c8]
        exact fin
    · rw [sI_na (by decide), sI_na (by decide)]
      exact hl k k1 k2
    · rw [sI_1, if_neg (by omega), sI_1, if_neg (by omega)]
  | succ j ih =>
    intro q n m hX hq hn h8 hl
    obtain ⟨n, rfl⟩ : ∃ n', n = n' + 1 := ⟨n - 1, by omega⟩
    have hN := hX.1
    by_cases q8 : q < 8
    · have c8 : (setI m 140 q (nI (b (a + q)))).1 138 8 = nI q := (sI_na (by decide)).trans h8
      obtain ⟨m', i1, i2, i3, i4, i5, i6, i7⟩ := ih (q + 1) n (setI (setI m 140 q (nI (b (a + q)))) 138 8 (nI (q + 1))) (hX.fm (((Gm.rf m).set9 _).set _ (by omega))) (by omega) (by omega) (sI_eq _ _ _ _) (fun k k1 k2 => by
        rw [sI_na (by decide)]
        by_cases z : k = q
        · subst z
          rw [sI_eq]
        · rw [sI_nj z]
          exact hl k (by omega) k2)
      refine ⟨m', ?_, i2, i3, i4, i5, fun x j z1 z2 => ?_, i7⟩
      · rw [fX11_next_67, lk_in hX (by omega), cl2_so, sm_1 (hr q (by omega)), cl2_so, if_neg (by decide), h8]
        unfold fX11_next_101
        simp (disch := omega) only [lk_in hX, c8, Nat.add_assoc, cl2_so, cl1_so, ck_tr, zl_0, zl_1, zl_2, zl_3, zl_4, zl_5, zl_6, zl_7, zl_8, zl_9, zl_10, zl_11, zl_12, zl_15, zl_16, zl_20, zl_24, zl_25, zl_30, zl_31, zl_32, zl_33, zl_44, zl_48, zl_50, zl_57, zl_59, zl_60, zl_61, zl_62, zl_63, zl_64, zl_68, zl_97, zl_99, zl_100, zl_104, zl_108, zl_114, zl_120, zl_122, zl_126, zl_132, zl_180, zl_181, zl_186, zl_255, zl_900, zl_930, zl_1000, zl_1000000, nI_add, pk_mul, zs_sub, zs_lt, zs_le, zs_eq, zs_inb, zs_cl, zm_eq, zm_eq2, zm_lt, zm_le, mz_lt, mz_le, mm_eq, zs_bit, zs_or1, zs_div, zs_rem, ck_pos, if_pos, if_neg, true_or, or_true, true_and, and_true, false_or, or_false, false_and, and_false, not_true, not_false_iff, if_true, if_false, eq_self, Bool.false_eq_true, cl2_id, Bool.not_true, Bool.not_false]
        exact i1
      · rw [i6 x j z1 z2, sI_1, if_neg (by omega), sI_na z1]
    · obtain ⟨m', i1, i2, i3, i4, i5, i6, i7⟩ := ih (q + 1) n (setI m 138 8 (nI (q + 1))) (hX.fm ((Gm.rf m).set _ (by omega))) (by omega) (by omega) (sI_eq _ _ _ _) (fun k k1 k2 => by
        rw [sI_na (by decide)]
        exact hl k (by omega) k2)
      refine ⟨m', ?_, i2, i3, i4, i5, fun x j z1 z2 => ?_, i7⟩
      · rw [fX11_next_67, lk_in hX (by omega), cl2_so, sm_1 (hr q (by omega)), cl2_so, if_neg (by decide), h8]
        unfold fX11_next_101
        simp (disch := omega) only [h8, Nat.add_assoc, cl2_so, cl1_so, ck_tr, zl_0, zl_1, zl_2, zl_3, zl_4, zl_5, zl_6, zl_7, zl_8, zl_9, zl_10, zl_11, zl_12, zl_15, zl_16, zl_20, zl_24, zl_25, zl_30, zl_31, zl_32, zl_33, zl_44, zl_48, zl_50, zl_57, zl_59, zl_60, zl_61, zl_62, zl_63, zl_64, zl_68, zl_97, zl_99, zl_100, zl_104, zl_108, zl_114, zl_120, zl_122, zl_126, zl_132, zl_180, zl_181, zl_186, zl_255, zl_900, zl_930, zl_1000, zl_1000000, nI_add, pk_mul, zs_sub, zs_lt, zs_le, zs_eq, zs_inb, zs_cl, zm_eq, zm_eq2, zm_lt, zm_le, mz_lt, mz_le, mm_eq, zs_bit, zs_or1, zs_div, zs_rem, ck_pos, if_pos, if_neg, true_or, or_true, true_and, and_true, false_or, or_false, false_and, and_false, not_true, not_false_iff, if_true, if_false, eq_self, Bool.false_eq_true, cl2_id, Bool.not_true, Bool.not_false]
        exact i1
      · rw [i6 x j z1 z2, sI_1, if_neg (by omega)]
theorem nx152 {a n1 : Nat} (ha : a + n1 ≤ N) (hr : ∀ k, k < n1 → 48 ≤ b (a + k) ∧ b (a + k) ≤ 57) (hs : a + n1 < N → ¬ (48 ≤ b (a + n1) ∧ b (a + n1) ≤ 57)) : ∀ j q n (m : Me), XM m N b → q + j = n1 → j < n → (q ≤ 3 → m.1 138 7 = nI (wv b a q)) → ∃ m', fX11_next_152 n (nI (a + q)) (nI q) m = some m' ∧ m'.1 138 5 = nI (a + n1) ∧ m'.1 138 6 = nI (if n1 ≤ 3 then 3 else 1) ∧ (n1 ≤ 3 → m'.1 138 7 = nI (wv b a n1)) ∧ (∀ x j, ¬ (x = 138 ∧ (j = 5 ∨ j = 6 ∨ j = 7)) → m'.1 x j = m.1 x j) ∧ m'.2 = m.2 := by
  intro j
  induction j with
  | zero =>
    intro q n m hX hq hn h7
    obtain ⟨n, rfl⟩ : ∃ n', n = n' + 1 := ⟨n - 1, by omega⟩
    obtain rfl : q = n1 := by omega
    have hN := hX.1
    refine ⟨setI (setI m 138 5 (nI (a + q))) 138 6 (nI (if q ≤ 3 then 3 else 1)), ?_, (sI_nj (by decide)).trans (sI_eq _ _ _ _), sI_eq _ _ _ _, fun z => ((sI_nj (by decide)).trans (sI_nj (by decide))).trans (h7 z), fun x j z2 => ?_, rfl⟩
    · have fin : (if nI q ≤ (3 : Int32) then fX11_next_213 (3 : Int32) (setI m 138 5 (nI (a + q))) else fX11_next_213 (1 : Int32) (setI m 138 5 (nI (a + q)))) = some (setI (setI m 138 5 (nI (a + q))) 138 6 (nI (if q ≤ 3 then 3 else 1))) := by
        unfold fX11_next_213 fX11_next_247
        by_cases q8 : q ≤ 3
        · rw [if_pos (c := q ≤ 3) q8]
          simp (disch := omega) only [q8, cl2_so, cl1_so, ck_tr, zl_0, zl_1, zl_2, zl_3, zl_4, zl_5, zl_6, zl_7, zl_8, zl_9, zl_10, zl_11, zl_12, zl_15, zl_16, zl_20, zl_24, zl_25, zl_30, zl_31, zl_32, zl_33, zl_44, zl_48, zl_50, zl_57, zl_59, zl_60, zl_61, zl_62, zl_63, zl_64, zl_68, zl_97, zl_99, zl_100, zl_104, zl_108, zl_114, zl_120, zl_122, zl_126, zl_132, zl_180, zl_181, zl_186, zl_255, zl_900, zl_930, zl_1000, zl_1000000, nI_add, pk_mul, zs_sub, zs_lt, zs_le, zs_eq, zs_inb, zs_cl, zm_eq, zm_eq2, zm_lt, zm_le, mz_lt, mz_le, mm_eq, zs_bit, zs_or1, zs_div, zs_rem, ck_pos, if_pos, if_neg, true_or, or_true, true_and, and_true, false_or, or_false, false_and, and_false, not_true, not_false_iff, if_true, if_false, eq_self, Bool.false_eq_true, cl2_id, Bool.not_true, Bool.not_false]
        · rw [if_neg (c := q ≤ 3) q8]
          simp (disch := omega) only [q8, cl2_so, cl1_so, ck_tr, zl_0, zl_1, zl_2, zl_3, zl_4, zl_5, zl_6, zl_7, zl_8, zl_9, zl_10, zl_11, zl_12, zl_15, zl_16, zl_20, zl_24, zl_25, zl_30, zl_31, zl_32, zl_33, zl_44, zl_48, zl_50, zl_57, zl_59, zl_60, zl_61, zl_62, zl_63, zl_64, zl_68, zl_97, zl_99, zl_100, zl_104, zl_108, zl_114, zl_120, zl_122, zl_126, zl_132, zl_180, zl_181, zl_186, zl_255, zl_900, zl_930, zl_1000, zl_1000000, nI_add, pk_mul, zs_sub, zs_lt, zs_le, zs_eq, zs_inb, zs_cl, zm_eq, zm_eq2, zm_lt, zm_le, mz_lt, mz_le, mm_eq, zs_bit, zs_or1, zs_div, zs_rem, ck_pos, if_pos, if_neg, true_or, or_true, true_and, and_true, false_or, or_false, false_and, and_false, not_true, not_false_iff, if_true, if_false, eq_self, Bool.false_eq_true, cl2_id, Bool.not_true, Bool.not_false]
      rw [fX11_next_152]
      by_cases hl : a + q < N
      · rw [lk_in hX hl, cl2_so, dg_0 (hX.2.2 _ hl).1 (hs hl), cl2_so, if_pos (by decide)]
        exact fin
      · rw [lk_out hX (by omega) (by omega), cl2_so, dg_n, cl2_so, if_pos (by decide)]
        exact fin
    · rw [sI_1, if_neg (by omega), sI_1, if_neg (by omega)]
  | succ j ih =>
    intro q n m hX hq hn h7
    obtain ⟨n, rfl⟩ : ∃ n', n = n' + 1 := ⟨n - 1, by omega⟩
    have hN := hX.1
    by_cases q3 : q < 3
    · have hw : wv b a q < 1000 := Nat.lt_of_lt_of_le (wv_lt q (fun k hk => hr k (by omega))) (Nat.le_trans (Nat.pow_le_pow_right (n := 10) (j := 3) (by decide) (by omega)) (by decide))
      obtain ⟨r1, r2⟩ := hr q (by omega)
      have e7 := h7 (by omega)
      have ew : wv b a (q + 1) = 10 * wv b a q + b (a + q) - 48 := by rw [wv]; omega
      obtain ⟨m', i1, i2, i3, i4, i6, i7⟩ := ih (q + 1) n (setI m 138 7 (nI (10 * wv b a q + b (a + q) - 48))) (hX.fm ((Gm.rf m).set _ (by omega))) (by omega) (by omega) (fun _ => by rw [sI_eq, ew])
      refine ⟨m', ?_, i2, i3, i4, fun x j z2 => ?_, i7⟩
      · rw [fX11_next_152, lk_in hX (by omega), cl2_so, dg_1 (hr q (by omega)), cl2_so, if_neg (by decide)]
        unfold fX11_next_188
        simp (disch := omega) only [lk_in hX, e7, Nat.add_assoc, cl2_so, cl1_so, ck_tr, zl_0, zl_1, zl_2, zl_3, zl_4, zl_5, zl_6, zl_7, zl_8, zl_9, zl_10, zl_11, zl_12, zl_15, zl_16, zl_20, zl_24, zl_25, zl_30, zl_31, zl_32, zl_33, zl_44, zl_48, zl_50, zl_57, zl_59, zl_60, zl_61, zl_62, zl_63, zl_64, zl_68, zl_97, zl_99, zl_100, zl_104, zl_108, zl_114, zl_120, zl_122, zl_126, zl_132, zl_180, zl_181, zl_186, zl_255, zl_900, zl_930, zl_1000, zl_1000000, nI_add, pk_mul, zs_sub, zs_lt, zs_le, zs_eq, zs_inb, zs_cl, zm_eq, zm_eq2, zm_lt, zm_le, mz_lt, mz_le, mm_eq, zs_bit, zs_or1, zs_div, zs_rem, ck_pos, if_pos, if_neg, true_or, or_true, true_and, and_true, false_or, or_false, false_and, and_false, not_true, not_false_iff, if_true, if_false, eq_self, Bool.false_eq_true, cl2_id, Bool.not_true, Bool.not_false]
        exact i1
      · rw [i6 x j z2, sI_1, if_neg (by omega)]
    · obtain ⟨m', i1, i2, i3, i4, i6, i7⟩ := ih (q + 1) n m hX (by omega) (by omega) (fun z => absurd z (by omega))
      refine ⟨m', ?_, i2, i3, i4, i6, i7⟩
      rw [fX11_next_152, lk_in hX (by omega), cl2_so, dg_1 (hr q (by omega)), cl2_so, if_neg (by decide)]
      unfold fX11_next_188
      simp (disch := omega) only [Nat.add_assoc, cl2_so, cl1_so, ck_tr, zl_0, zl_1, zl_2, zl_3, zl_4, zl_5, zl_6, zl_7, zl_8, zl_9, zl_10, zl_11, zl_12, zl_15, zl_16, zl_20, zl_24, zl_25, zl_30, zl_31, zl_32, zl_33, zl_44, zl_48, zl_50, zl_57, zl_59, zl_60, zl_61, zl_62, zl_63, zl_64, zl_68, zl_97, zl_99, zl_100, zl_104, zl_108, zl_114, zl_120, zl_122, zl_126, zl_132, zl_180, zl_181, zl_186, zl_255, zl_900, zl_930, zl_1000, zl_1000000, nI_add, pk_mul, zs_sub, zs_lt, zs_le, zs_eq, zs_inb, zs_cl, zm_eq, zm_eq2, zm_lt, zm_le, mz_lt, mz_le, mm_eq, zs_bit, zs_or1, zs_div, zs_rem, ck_pos, if_pos, if_neg, true_or, or_true, true_and, and_true, false_or, or_false, false_and, and_false, not_true, not_false_iff, if_true, if_false, eq_self, Bool.false_eq_true, cl2_id, Bool.not_true, Bool.not_false]
      exact i1
theorem nx5 {a : Nat} (ha : a ≤ N) (hs : a < N → b a ≠ 32) (hX : XM m N b) : ∀ j q n, q + j = a → j < n → (∀ k, q ≤ k → k < a → b k = 32) → ∃ n', fX11_next_5 n (nI q) m = fX11_next_5 (n' + 1) (nI a) m := by
  intro j
  induction j with
  | zero =>
    intro q n hq hn hk
    obtain rfl : q = a := by omega
    exact ⟨n - 1, by rw [show n - 1 + 1 = n by omega]⟩
  | succ j ih =>
    intro q n hq hn hk
    obtain ⟨n, rfl⟩ : ∃ n', n = n' + 1 := ⟨n - 1, by omega⟩
    obtain ⟨n', e⟩ := ih (q + 1) n (by omega) (by omega) (fun k a1 a2 => hk k (by omega) a2)
    have hN := hX.1
    refine ⟨n', ?_⟩
    rw [← e]
    rw [fX11_next_5, lk_in hX (by omega), cl2_so, hk q (by omega) (by omega), if_pos (by decide), zl_1, nI_add]
theorem next_e {p a n κ : Nat} (hX : XM m N b) (h5 : m.1 138 5 = nI p) (hpN : p ≤ N) (hT : Tk N b p a n κ) : ∃ m', fX11_next m = some m' ∧ TM m' b a n κ ∧ Gm m m' := by
  obtain ⟨h1, h2, h3, h4, hc⟩ := hT
  have hN := hX.1
  obtain ⟨f, ef⟩ := nx5 h2 h4 hX (a - p) p FU (by omega) (FU_pos (by omega)) h3
  have e0 : fX11_next m = fX11_next_5 (f + 1) (nI a) m := by
    unfold fX11_next
    rw [h5]
    exact ef
  have hX4 : XM (setI m 138 4 (nI a)) N b := hX.fm ((Gm.rf m).set _ (by omega))
  have hX7 : XM (setI (setI (setI m 138 4 (nI a)) 138 8 (nI 0)) 138 7 (nI 0)) N b := hX.fm ((((Gm.rf m).set _ (by omega)).set _ (by omega)).set _ (by omega))
  have hF7 : Gm m (setI (setI (setI m 138 4 (nI a)) 138 8 (nI 0)) 138 7 (nI 0)) := (((Gm.rf m).set _ (by omega)).set _ (by omega)).set _ (by omega)
  have s4 : (setI (setI (setI m 138 4 (nI a)) 138 8 (nI 0)) 138 7 (nI 0)).1 138 4 = nI a := (sI_nj (by decide)).trans ((sI_nj (by decide)).trans (sI_eq _ _ _ _))
  rw [e0, fX11_next_5]
  rcases hc with ⟨rfl, rfl, rfl⟩ | ⟨d1, d2, d3, d4, rfl⟩ | ⟨d1, d2, d3, d4, rfl⟩ | ⟨rfl, d2, d3, d4, rfl⟩
  · rw [lk_out hX (Nat.le_refl _) hN, cl2_so, if_neg (by decide), lk_out hX4 (Nat.le_refl _) hN, cl2_so, if_pos (by decide)]
    refine ⟨_, rfl, ⟨?_, ?_, ?_, fun q => absurd q (by decide), fun q => absurd q (by decide)⟩, (((((Gm.rf m).set _ (by omega)).set _ (by omega)).set _ (by omega)).set _ (by omega)).set _ (by omega)⟩
    · rw [sI_nj (by decide), sI_nj (by decide), sI_nj (by decide), sI_nj (by decide), sI_eq]
    · rw [sI_eq]
      rfl
    · rw [sI_nj (by decide), sI_eq]
      rfl
  · have hl : a < N := by omega
    have hb := hX.2.2 a hl
    have r0 := d3 0 (by omega)
    rw [Nat.add_zero] at r0
    have q32 : ¬ nI (b a) = (32 : Int32) := by rw [zl_32, zs_eq (by omega) (by omega)]; omega
    have qn : ¬ nI (b a) = (-1 : Int32) := by
      intro q
      have : nI (b a) = -nI 1 := q
      rw [zm_eq (by omega) (by omega)] at this
      omega
    rw [lk_in hX hl, cl2_so, if_neg q32, lk_in hX4 hl, cl2_so, if_neg qn]
    have es := sm_1 (m := setI (setI (setI m 138 4 (nI a)) 138 8 (nI 0)) 138 7 (nI 0)) r0
    obtain ⟨m', i1, i2, i3, i4, i5, i6, i7⟩ := nx67 (b := b) d2 d3 d4 n 0 FU (setI (setI (setI m 138 4 (nI a)) 138 8 (nI 0)) 138 7 (nI 0)) hX7 (by omega) (FU_pos (by omega)) ((sI_nj (by decide)).trans (sI_eq _ _ _ _)) (fun k hk => absurd hk (by omega))
    refine ⟨m', ?_, ⟨(i6 138 4 (by omega) (by omega)).trans s4, i2, ?_, fun q => ?_, fun q => ?_⟩, hF7.tr ⟨fun x j q z => i6 x j q (by omega), i7⟩⟩
    · refine Eq.trans (cl2_e es) ?_
      rw [if_neg (by decide)]
      exact i1
    · rw [i3]
      by_cases q8 : n ≤ 8
      · rw [if_pos q8, if_pos q8]
        rfl
      · rw [if_neg q8, if_neg q8]
        rfl
    · have q8 : n ≤ 8 := by
        by_cases q8 : n ≤ 8
        · exact q8
        · rw [if_neg q8] at q
          cases q
      exact ⟨i4, fun k hk => i5 k hk (by omega)⟩
    · by_cases q8 : n ≤ 8
      · rw [if_pos q8] at q
        cases q
      · rw [if_neg q8] at q
        cases q
  · have hl : a < N := by omega
    have hb := hX.2.2 a hl
    have r0 := d3 0 (by omega)
    rw [Nat.add_zero] at r0
    have q32 : ¬ nI (b a) = (32 : Int32) := by rw [zl_32, zs_eq (by omega) (by omega)]; omega
    have qn : ¬ nI (b a) = (-1 : Int32) := by
      intro q
      have : nI (b a) = -nI 1 := q
      rw [zm_eq (by omega) (by omega)] at this
      omega
    rw [lk_in hX hl, cl2_so, if_neg q32, lk_in hX4 hl, cl2_so, if_neg qn]
    have es := sm_0 (m := setI (setI (setI m 138 4 (nI a)) 138 8 (nI 0)) 138 7 (nI 0)) (c := b a) hb.1 (by omega)
    have ed := dg_1 (m := setI (setI (setI m 138 4 (nI a)) 138 8 (nI 0)) 138 7 (nI 0)) r0
    obtain ⟨m', i1, i2, i3, i4, i6, i7⟩ := nx152 (b := b) d2 d3 d4 n 0 FU (setI (setI (setI m 138 4 (nI a)) 138 8 (nI 0)) 138 7 (nI 0)) hX7 (by omega) (FU_pos (by omega)) (fun _ => sI_eq _ _ _ _)
    refine ⟨m', ?_, ⟨(i6 138 4 (by omega)).trans s4, i2, ?_, fun q => ?_, fun q => ?_⟩, hF7.tr ⟨fun x j q z => i6 x j (by omega), i7⟩⟩
    · refine Eq.trans (cl2_e es) ?_
      rw [if_pos (by decide)]
      refine Eq.trans (cl2_e ed) ?_
      rw [if_neg (by decide)]
      exact i1
    · rw [i3]
      by_cases q8 : n ≤ 3
      · rw [if_pos q8, if_pos q8]
        rfl
      · rw [if_neg q8, if_neg q8]
        rfl
    · by_cases q8 : n ≤ 3
      · rw [if_pos q8] at q
        cases q
      · rw [if_neg q8] at q
        cases q
    · have q8 : n ≤ 3 := by
        by_cases q8 : n ≤ 3
        · exact q8
        · rw [if_neg q8] at q
          cases q
      exact i4 q8
  · have hl : a < N := by omega
    have hb := hX.2.2 a hl
    have h32 := h4 hl
    have q32 : ¬ nI (b a) = (32 : Int32) := by rw [zl_32, zs_eq (by omega) (by omega)]; omega
    have qn : ¬ nI (b a) = (-1 : Int32) := by
      intro q
      have : nI (b a) = -nI 1 := q
      rw [zm_eq (by omega) (by omega)] at this
      omega
    rw [lk_in hX hl, cl2_so, if_neg q32, lk_in hX4 hl, cl2_so, if_neg qn]
    have es := sm_0 (m := setI (setI (setI m 138 4 (nI a)) 138 8 (nI 0)) 138 7 (nI 0)) (c := b a) hb.1 (by omega)
    have ed := dg_0 (m := setI (setI (setI m 138 4 (nI a)) 138 8 (nI 0)) 138 7 (nI 0)) (c := b a) hb.1 (by omega)
    refine ⟨setI (setI (setI (setI (setI m 138 4 (nI a)) 138 8 (nI 0)) 138 7 (nI 0)) 138 5 (nI (a + 1))) 138 6 (nI (kM (if b a = 59 then 3 else if b a = 44 then 4 else 5))), ?_, ⟨?_, ?_, sI_eq _ _ _ _, fun q => ?_, fun q => ?_⟩, (hF7.set _ (by omega)).set _ (by omega)⟩
    · refine Eq.trans (cl2_e es) ?_
      rw [if_pos (by decide)]
      refine Eq.trans (cl2_e ed) ?_
      rw [if_pos (by decide)]
      unfold fX11_next_239 fX11_next_244 fX11_next_247 kM
      by_cases q : b a = 59
      · rw [q, if_pos (c := 59 = 59) rfl]
        simp (disch := omega) only [cl2_so, cl1_so, ck_tr, zl_0, zl_1, zl_2, zl_3, zl_4, zl_5, zl_6, zl_7, zl_8, zl_9, zl_10, zl_11, zl_12, zl_15, zl_16, zl_20, zl_24, zl_25, zl_30, zl_31, zl_32, zl_33, zl_44, zl_48, zl_50, zl_57, zl_59, zl_60, zl_61, zl_62, zl_63, zl_64, zl_68, zl_97, zl_99, zl_100, zl_104, zl_108, zl_114, zl_120, zl_122, zl_126, zl_132, zl_180, zl_181, zl_186, zl_255, zl_900, zl_930, zl_1000, zl_1000000, nI_add, pk_mul, zs_sub, zs_lt, zs_le, zs_eq, zs_inb, zs_cl, zm_eq, zm_eq2, zm_lt, zm_le, mz_lt, mz_le, mm_eq, zs_bit, zs_or1, zs_div, zs_rem, ck_pos, if_pos, if_neg, true_or, or_true, true_and, and_true, false_or, or_false, false_and, and_false, not_true, not_false_iff, if_true, if_false, eq_self, Bool.false_eq_true, cl2_id, Bool.not_true, Bool.not_false]
      · rw [if_neg (c := b a = 59) q]
        by_cases q2 : b a = 44
        · rw [q2, if_pos (c := 44 = 44) rfl]
          simp (disch := omega) only [cl2_so, cl1_so, ck_tr, zl_0, zl_1, zl_2, zl_3, zl_4, zl_5, zl_6, zl_7, zl_8, zl_9, zl_10, zl_11, zl_12, zl_15, zl_16, zl_20, zl_24, zl_25, zl_30, zl_31, zl_32, zl_33, zl_44, zl_48, zl_50, zl_57, zl_59, zl_60, zl_61, zl_62, zl_63, zl_64, zl_68, zl_97, zl_99, zl_100, zl_104, zl_108, zl_114, zl_120, zl_122, zl_126, zl_132, zl_180, zl_181, zl_186, zl_255, zl_900, zl_930, zl_1000, zl_1000000, nI_add, pk_mul, zs_sub, zs_lt, zs_le, zs_eq, zs_inb, zs_cl, zm_eq, zm_eq2, zm_lt, zm_le, mz_lt, mz_le, mm_eq, zs_bit, zs_or1, zs_div, zs_rem, ck_pos, if_pos, if_neg, true_or, or_true, true_and, and_true, false_or, or_false, false_and, and_false, not_true, not_false_iff, if_true, if_false, eq_self, Bool.false_eq_true, cl2_id, Bool.not_true, Bool.not_false]
        · rw [if_neg (c := b a = 44) q2]
          simp (disch := omega) only [q, q2, cl2_so, cl1_so, ck_tr, zl_0, zl_1, zl_2, zl_3, zl_4, zl_5, zl_6, zl_7, zl_8, zl_9, zl_10, zl_11, zl_12, zl_15, zl_16, zl_20, zl_24, zl_25, zl_30, zl_31, zl_32, zl_33, zl_44, zl_48, zl_50, zl_57, zl_59, zl_60, zl_61, zl_62, zl_63, zl_64, zl_68, zl_97, zl_99, zl_100, zl_104, zl_108, zl_114, zl_120, zl_122, zl_126, zl_132, zl_180, zl_181, zl_186, zl_255, zl_900, zl_930, zl_1000, zl_1000000, nI_add, pk_mul, zs_sub, zs_lt, zs_le, zs_eq, zs_inb, zs_cl, zm_eq, zm_eq2, zm_lt, zm_le, mz_lt, mz_le, mm_eq, zs_bit, zs_or1, zs_div, zs_rem, ck_pos, if_pos, if_neg, true_or, or_true, true_and, and_true, false_or, or_false, false_and, and_false, not_true, not_false_iff, if_true, if_false, eq_self, Bool.false_eq_true, cl2_id, Bool.not_true, Bool.not_false]
    · rw [sI_nj (by decide), sI_nj (by decide)]
      exact s4
    · rw [sI_nj (by decide), sI_eq]
    · split at q
      · cases q
      · split at q <;> cases q
    · split at q
      · cases q
      · split at q <;> cases q
end TOKM
