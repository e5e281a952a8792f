/-! acts: what is kept of them, on both sides -/
def drp (m : Me) (q : Nat) : Me := (fun b i => if (b = 85 ∨ b = 86 ∨ b = 87) ∧ i + 1 < q then m.1 b (i + 1) else m.1 b i, m.2)
theorem drp_1 (m : Me) (q b i : Nat) : (drp m q).1 b i = if (b = 85 ∨ b = 86 ∨ b = 87) ∧ i + 1 < q then m.1 b (i + 1) else m.1 b i := rfl
theorem drp_0 (m : Me) : drp m 1 = m := by
  refine me_ext (fun b i => ?_) (fun _ _ => rfl)
  rw [drp_1, if_neg (by omega)]
theorem drp_s (m : Me) (q : Nat) (hq : 1 ≤ q) : setI (setI (setI (drp m q) 85 (q - 1) ((drp m q).1 85 q)) 86 (q - 1) ((drp m q).1 86 q)) 87 (q - 1) ((drp m q).1 87 q) = drp m (q + 1) := by
  refine me_ext (fun b i => ?_) (fun _ _ => rfl)
  simp only [sI_1, drp_1]
  have e : ¬ q + 1 < q := by omega
  simp only [e, and_false, if_false]
  have e1 : i = q - 1 → i + 1 = q := by omega
  by_cases h7 : b = 87 ∧ i = q - 1
  · rw [if_pos h7, if_pos ⟨by omega, by omega⟩, h7.1, e1 h7.2]
  · rw [if_neg h7]
    by_cases h6 : b = 86 ∧ i = q - 1
    · rw [if_pos h6, if_pos ⟨by omega, by omega⟩, h6.1, e1 h6.2]
    · rw [if_neg h6]
      by_cases h5 : b = 85 ∧ i = q - 1
      · rw [if_pos h5, if_pos ⟨by omega, by omega⟩, h5.1, e1 h5.2]
      · rw [if_neg h5]
        by_cases hc : (b = 85 ∨ b = 86 ∨ b = 87) ∧ i + 1 < q
        · rw [if_pos hc, if_pos ⟨hc.1, by omega⟩]
        · rw [if_neg hc, if_neg (by omega)]
theorem dro2 (m : Me) : ∀ j q n, q + j = 16 → 1 ≤ q → j < n → fX0_dropOldest_2 n (nI q) (drp m q) = some (setI (drp m 16) 84 3 (nI 15)) := by
  intro j
  induction j with
  | zero =>
    intro q n hq h1 hn
    obtain ⟨n, rfl⟩ : ∃ n', n = n' + 1 := ⟨n - 1, by omega⟩
    have : q = 16 := by omega
    subst this
    rw [fX0_dropOldest_2]
    simp (disch := omega) only [cl2_so, cl1_so, ck_tr, zl_0, zl_1, zl_2, zl_3, zl_4, zl_5, zl_6, zl_7, zl_8, zl_9, zl_10, zl_11, zl_12, zl_15, zl_16, zl_20, zl_24, zl_25, zl_30, zl_31, zl_32, zl_33, zl_44, zl_48, zl_50, zl_57, zl_59, zl_60, zl_61, zl_62, zl_63, zl_64, zl_68, zl_97, zl_99, zl_100, zl_104, zl_108, zl_114, zl_120, zl_122, zl_126, zl_132, zl_180, zl_181, zl_186, zl_255, zl_900, zl_930, zl_1000, zl_1000000, nI_add, pk_mul, zs_sub, zs_lt, zs_le, zs_eq, zs_inb, zs_cl, zm_eq, zm_eq2, zm_lt, zm_le, mz_lt, mz_le, mm_eq, zs_bit, zs_or1, zs_div, zs_rem, ck_pos, if_pos, if_neg, true_or, or_true, true_and, and_true, false_or, or_false, false_and, and_false, not_true, not_false_iff, if_true, if_false, eq_self, Bool.false_eq_true, cl2_id, Bool.not_true, Bool.not_false]
  | succ j ih =>
    intro q n hq h1 hn
    obtain ⟨n, rfl⟩ : ∃ n', n = n' + 1 := ⟨n - 1, by omega⟩
    rw [fX0_dropOldest_2]
    have c6 : (setI (drp m q) 85 (q - 1) ((drp m q).1 85 q)).1 86 q = (drp m q).1 86 q := sI_na (by decide)
    have c7 : (setI (setI (drp m q) 85 (q - 1) ((drp m q).1 85 q)) 86 (q - 1) ((drp m q).1 86 q)).1 87 q = (drp m q).1 87 q := (sI_na (by decide)).trans (sI_na (by decide))
    simp (disch := omega) only [c6, c7, cl2_so, cl1_so, ck_tr, zl_0, zl_1, zl_2, zl_3, zl_4, zl_5, zl_6, zl_7, zl_8, zl_9, zl_10, zl_11, zl_12, zl_15, zl_16, zl_20, zl_24, zl_25, zl_30, zl_31, zl_32, zl_33, zl_44, zl_48, zl_50, zl_57, zl_59, zl_60, zl_61, zl_62, zl_63, zl_64, zl_68, zl_97, zl_99, zl_100, zl_104, zl_108, zl_114, zl_120, zl_122, zl_126, zl_132, zl_180, zl_181, zl_186, zl_255, zl_900, zl_930, zl_1000, zl_1000000, nI_add, pk_mul, zs_sub, zs_lt, zs_le, zs_eq, zs_inb, zs_cl, zm_eq, zm_eq2, zm_lt, zm_le, mz_lt, mz_le, mm_eq, zs_bit, zs_or1, zs_div, zs_rem, ck_pos, if_pos, if_neg, true_or, or_true, true_and, and_true, false_or, or_false, false_and, and_false, not_true, not_false_iff, if_true, if_false, eq_self, Bool.false_eq_true, cl2_id, Bool.not_true, Bool.not_false]
    rw [drp_s m q h1]
    exact ih (q + 1) n (by omega) (by omega) (by omega)
/-- the class keeps an act -/
theorem keep_e {m : Me} {U : Nat} (hU : U ≤ 16) (h : m.1 84 3 = nI U) (k p v : Int32) : ∃ m', fX0_keep k p v m = some m' ∧ (∀ b j, (b < 84 ∨ 87 < b) → m'.1 b j = m.1 b j) ∧ m'.2 = m.2 ∧ ∃ u e, u ≤ 15 ∧ (U < 16 ∧ u = U ∧ e = 0 ∨ U = 16 ∧ u = 15 ∧ e = 1) ∧ m'.1 84 3 = nI (u + 1) ∧ (m'.1 85 u = k ∧ m'.1 86 u = p ∧ m'.1 87 u = v) ∧ ∀ i, i < u → m'.1 85 i = m.1 85 (i + e) ∧ m'.1 86 i = m.1 86 (i + e) ∧ m'.1 87 i = m.1 87 (i + e) := by
  have go : ∀ (m : Me) u, u ≤ 15 → m.1 84 3 = nI u → fX0_keep_13 k p v m = some (setI (setI (setI (setI m 85 u k) 86 u p) 87 u v) 84 3 (nI (u + 1))) := by
    intro m u hu h
    unfold fX0_keep_13
    have c1 : (setI m 85 u k).1 84 3 = nI u := (sI_na (by decide)).trans h
    have c2 : (setI (setI m 85 u k) 86 u p).1 84 3 = nI u := (sI_na (by decide)).trans c1
    have c3 : (setI (setI (setI m 85 u k) 86 u p) 87 u v).1 84 3 = nI u := (sI_na (by decide)).trans c2
    simp (disch := omega) only [h, c1, c2, c3, cl2_so, cl1_so, ck_tr, zl_0, zl_1, zl_2, zl_3, zl_4, zl_5, zl_6, zl_7, zl_8, zl_9, zl_10, zl_11, zl_12, zl_15, zl_16, zl_20, zl_24, zl_25, zl_30, zl_31, zl_32, zl_33, zl_44, zl_48, zl_50, zl_57, zl_59, zl_60, zl_61, zl_62, zl_63, zl_64, zl_68, zl_97, zl_99, zl_100, zl_104, zl_108, zl_114, zl_120, zl_122, zl_126, zl_132, zl_180, zl_181, zl_186, zl_255, zl_900, zl_930, zl_1000, zl_1000000, nI_add, pk_mul, zs_sub, zs_lt, zs_le, zs_eq, zs_inb, zs_cl, zm_eq, zm_eq2, zm_lt, zm_le, mz_lt, mz_le, mm_eq, zs_bit, zs_or1, zs_div, zs_rem, ck_pos, if_pos, if_neg, true_or, or_true, true_and, and_true, false_or, or_false, false_and, and_false, not_true, not_false_iff, if_true, if_false, eq_self, Bool.false_eq_true, cl2_id, Bool.not_true, Bool.not_false]
  have nx : ∀ (m : Me) u, (∀ b j, (b < 84 ∨ 87 < b) → (setI (setI (setI (setI m 85 u k) 86 u p) 87 u v) 84 3 (nI (u + 1))).1 b j = m.1 b j) ∧ (setI (setI (setI (setI m 85 u k) 86 u p) 87 u v) 84 3 (nI (u + 1))).1 84 3 = nI (u + 1) ∧ ((setI (setI (setI (setI m 85 u k) 86 u p) 87 u v) 84 3 (nI (u + 1))).1 85 u = k ∧ (setI (setI (setI (setI m 85 u k) 86 u p) 87 u v) 84 3 (nI (u + 1))).1 86 u = p ∧ (setI (setI (setI (setI m 85 u k) 86 u p) 87 u v) 84 3 (nI (u + 1))).1 87 u = v) ∧ ∀ i b, i < u → (b = 85 ∨ b = 86 ∨ b = 87) → (setI (setI (setI (setI m 85 u k) 86 u p) 87 u v) 84 3 (nI (u + 1))).1 b i = m.1 b i := by
    intro m u
    refine ⟨fun b j hb => ?_, sI_eq _ _ _ _, ⟨?_, ?_, ?_⟩, fun i b hi hb => ?_⟩
    · rw [sI_na (by omega), sI_na (by omega), sI_na (by omega), sI_na (by omega)]
    · rw [sI_na (by decide), sI_na (by decide), sI_na (by decide), sI_eq]
    · rw [sI_na (by decide), sI_na (by decide), sI_eq]
    · rw [sI_na (by decide), sI_eq]
    · rw [sI_na (by omega), sI_nj (by omega), sI_nj (by omega), sI_nj (by omega)]
  by_cases q : U < 16
  · obtain ⟨n1, n2, n3, n4⟩ := nx m U
    refine ⟨_, ?_, n1, rfl, U, 0, by omega, Or.inl ⟨q, rfl, rfl⟩, n2, n3, fun i hi => ⟨n4 i 85 hi (by omega), n4 i 86 hi (by omega), n4 i 87 hi (by omega)⟩⟩
    unfold fX0_keep
    simp (disch := omega) only [h, cl2_so, cl1_so, ck_tr, zl_0, zl_1, zl_2, zl_3, zl_4, zl_5, zl_6, zl_7, zl_8, zl_9, zl_10, zl_11, zl_12, zl_15, zl_16, zl_20, zl_24, zl_25, zl_30, zl_31, zl_32, zl_33, zl_44, zl_48, zl_50, zl_57, zl_59, zl_60, zl_61, zl_62, zl_63, zl_64, zl_68, zl_97, zl_99, zl_100, zl_104, zl_108, zl_114, zl_120, zl_122, zl_126, zl_132, zl_180, zl_181, zl_186, zl_255, zl_900, zl_930, zl_1000, zl_1000000, nI_add, pk_mul, zs_sub, zs_lt, zs_le, zs_eq, zs_inb, zs_cl, zm_eq, zm_eq2, zm_lt, zm_le, mz_lt, mz_le, mm_eq, zs_bit, zs_or1, zs_div, zs_rem, ck_pos, if_pos, if_neg, true_or, or_true, true_and, and_true, false_or, or_false, false_and, and_false, not_true, not_false_iff, if_true, if_false, eq_self, Bool.false_eq_true, cl2_id, Bool.not_true, Bool.not_false]
    exact go m U (by omega) h
  · have hU16 : U = 16 := by omega
    subst hU16
    have ed : fX0_dropOldest m = some (setI (drp m 16) 84 3 (nI 15)) := by
      have := dro2 m 15 1 FU (by omega) (by omega) (FU_pos (by omega))
      rw [drp_0] at this
      exact this
    obtain ⟨n1, n2, n3, n4⟩ := nx (setI (drp m 16) 84 3 (nI 15)) 15
    refine ⟨setI (setI (setI (setI (setI (drp m 16) 84 3 (nI 15)) 85 15 k) 86 15 p) 87 15 v) 84 3 (nI (15 + 1)), ?_, fun b j hb => ?_, rfl, 15, 1, by omega, Or.inr ⟨rfl, rfl, rfl⟩, n2, n3, fun i hi => ⟨?_, ?_, ?_⟩⟩
    · unfold fX0_keep
      simp (disch := omega) only [h, ed, cl2_so, cl1_so, ck_tr, zl_0, zl_1, zl_2, zl_3, zl_4, zl_5, zl_6, zl_7, zl_8, zl_9, zl_10, zl_11, zl_12, zl_15, zl_16, zl_20, zl_24, zl_25, zl_30, zl_31, zl_32, zl_33, zl_44, zl_48, zl_50, zl_57, zl_59, zl_60, zl_61, zl_62, zl_63, zl_64, zl_68, zl_97, zl_99, zl_100, zl_104, zl_108, zl_114, zl_120, zl_122, zl_126, zl_132, zl_180, zl_181, zl_186, zl_255, zl_900, zl_930, zl_1000, zl_1000000, nI_add, pk_mul, zs_sub, zs_lt, zs_le, zs_eq, zs_inb, zs_cl, zm_eq, zm_eq2, zm_lt, zm_le, mz_lt, mz_le, mm_eq, zs_bit, zs_or1, zs_div, zs_rem, ck_pos, if_pos, if_neg, true_or, or_true, true_and, and_true, false_or, or_false, false_and, and_false, not_true, not_false_iff, if_true, if_false, eq_self, Bool.false_eq_true, cl2_id, Bool.not_true, Bool.not_false]
      exact go _ 15 (by omega) (sI_eq _ _ _ _)
    · rw [n1 b j hb, sI_na (by omega), drp_1, if_neg (by omega)]
    · rw [n4 i 85 hi (by omega), sI_na (by decide), drp_1, if_pos ⟨by omega, by omega⟩]
    · rw [n4 i 86 hi (by omega), sI_na (by decide), drp_1, if_pos ⟨by omega, by omega⟩]
    · rw [n4 i 87 hi (by omega), sI_na (by decide), drp_1, if_pos ⟨by omega, by omega⟩]
def shf (m : Me) (q : Nat) : Me := (fun b i => if b = 145 ∧ i < q then m.1 145 (i + 62) else m.1 b i, m.2)
theorem shf_1 (m : Me) (q b i : Nat) : (shf m q).1 b i = if b = 145 ∧ i < q then m.1 145 (i + 62) else m.1 b i := rfl
theorem shf_0 (m : Me) : shf m 0 = m := by
  refine me_ext (fun b i => ?_) (fun _ _ => rfl)
  rw [shf_1, if_neg (by omega)]
theorem shf_s (m : Me) (q : Nat) : setI (shf m q) 145 q ((shf m q).1 145 (q + 62)) = shf m (q + 1) := by
  refine me_ext (fun b i => ?_) (fun _ _ => rfl)
  rw [sI_1, shf_1, shf_1, shf_1, if_neg (c := 145 = 145 ∧ _) (by omega)]
  by_cases h : b = 145 ∧ i = q
  · rw [if_pos h, if_pos ⟨h.1, by omega⟩, h.2]
  · rw [if_neg h]
    by_cases h2 : b = 145 ∧ i < q
    · rw [if_pos h2, if_pos ⟨h2.1, by omega⟩]
    · rw [if_neg h2, if_neg (by omega)]
theorem nt11 (m : Me) : ∀ j q n, q + j = 930 → j < n → fX11_note_11 n (nI q) (shf m q) = fX11_note_49 (setI (shf m 930) 138 21 (((shf m 930).1 138 21) - nI 1)) := by
  intro j
  induction j with
  | zero =>
    intro q n hq hn
    obtain ⟨n, rfl⟩ : ∃ n', n = n' + 1 := ⟨n - 1, by omega⟩
    have : q = 930 := by omega
    subst this
    rw [fX11_note_11]
    simp (disch := omega) only [cl2_so, cl1_so, ck_tr, zl_0, zl_1, zl_2, zl_3, zl_4, zl_5, zl_6, zl_7, zl_8, zl_9, zl_10, zl_11, zl_12, zl_15, zl_16, zl_20, zl_24, zl_25, zl_30, zl_31, zl_32, zl_33, zl_44, zl_48, zl_50, zl_57, zl_59, zl_60, zl_61, zl_62, zl_63, zl_64, zl_68, zl_97, zl_99, zl_100, zl_104, zl_108, zl_114, zl_120, zl_122, zl_126, zl_132, zl_180, zl_181, zl_186, zl_255, zl_900, zl_930, zl_1000, zl_1000000, nI_add, pk_mul, zs_sub, zs_lt, zs_le, zs_eq, zs_inb, zs_cl, zm_eq, zm_eq2, zm_lt, zm_le, mz_lt, mz_le, mm_eq, zs_bit, zs_or1, zs_div, zs_rem, ck_pos, if_pos, if_neg, true_or, or_true, true_and, and_true, false_or, or_false, false_and, and_false, not_true, not_false_iff, if_true, if_false, eq_self, Bool.false_eq_true, cl2_id, Bool.not_true, Bool.not_false]
  | succ j ih =>
    intro q n hq hn
    obtain ⟨n, rfl⟩ : ∃ n', n = n' + 1 := ⟨n - 1, by omega⟩
    rw [fX11_note_11]
    simp (disch := omega) only [cl2_so, cl1_so, ck_tr, zl_0, zl_1, zl_2, zl_3, zl_4, zl_5, zl_6, zl_7, zl_8, zl_9, zl_10, zl_11, zl_12, zl_15, zl_16, zl_20, zl_24, zl_25, zl_30, zl_31, zl_32, zl_33, zl_44, zl_48, zl_50, zl_57, zl_59, zl_60, zl_61, zl_62, zl_63, zl_64, zl_68, zl_97, zl_99, zl_100, zl_104, zl_108, zl_114, zl_120, zl_122, zl_126, zl_132, zl_180, zl_181, zl_186, zl_255, zl_900, zl_930, zl_1000, zl_1000000, nI_add, pk_mul, zs_sub, zs_lt, zs_le, zs_eq, zs_inb, zs_cl, zm_eq, zm_eq2, zm_lt, zm_le, mz_lt, mz_le, mm_eq, zs_bit, zs_or1, zs_div, zs_rem, ck_pos, if_pos, if_neg, true_or, or_true, true_and, and_true, false_or, or_false, false_and, and_false, not_true, not_false_iff, if_true, if_false, eq_self, Bool.false_eq_true, cl2_id, Bool.not_true, Bool.not_false]
    rw [shf_s]
    exact ih (q + 1) n (by omega) (by omega)
/-- the reference notes the state -/
theorem note_e {m : Me} {U : Nat} {s : Nat → Nat} (hU : U ≤ 16) (h : m.1 138 21 = nI U) (hs : MS m s) : ∃ m', fX11_note m = some m' ∧ (∀ b j, b ≠ 145 → ¬ (b = 138 ∧ j = 21) → m'.1 b j = m.1 b j) ∧ m'.2 = m.2 ∧ ∃ u e, u ≤ 15 ∧ (U < 16 ∧ u = U ∧ e = 0 ∨ U = 16 ∧ u = 15 ∧ e = 1) ∧ m'.1 138 21 = nI (u + 1) ∧ (∀ k, k < 62 → m'.1 145 (62 * u + k) = nI (s k)) ∧ ∀ i k, i < u → k < 62 → m'.1 145 (62 * i + k) = m.1 145 (62 * (i + e) + k) := by
  have go : ∀ (m : Me) u, u ≤ 15 → m.1 138 21 = nI u → fX11_note_49 m = some (setI (cpM m 143 0 145 (62 * u) 62) 138 21 (nI (u + 1))) := by
    intro m u hu h
    unfold fX11_note_49
    have c1 := copy_e (m := m) (a0 := 143) (p := 0) (a2 := 145) (d := 62 * u) (L := 62) (by decide) (by decide) (by show _ ≤ 992; omega) (by omega)
    have c2 : (cpM m 143 0 145 (62 * u) 62).1 138 21 = nI u := (cpM_na (by decide)).trans h
    simp (disch := omega) only [h, c1, c2, cl2_so, cl1_so, ck_tr, zl_0, zl_1, zl_2, zl_3, zl_4, zl_5, zl_6, zl_7, zl_8, zl_9, zl_10, zl_11, zl_12, zl_15, zl_16, zl_20, zl_24, zl_25, zl_30, zl_31, zl_32, zl_33, zl_44, zl_48, zl_50, zl_57, zl_59, zl_60, zl_61, zl_62, zl_63, zl_64, zl_68, zl_97, zl_99, zl_100, zl_104, zl_108, zl_114, zl_120, zl_122, zl_126, zl_132, zl_180, zl_181, zl_186, zl_255, zl_900, zl_930, zl_1000, zl_1000000, nI_add, pk_mul, zs_sub, zs_lt, zs_le, zs_eq, zs_inb, zs_cl, zm_eq, zm_eq2, zm_lt, zm_le, mz_lt, mz_le, mm_eq, zs_bit, zs_or1, zs_div, zs_rem, ck_pos, if_pos, if_neg, true_or, or_true, true_and, and_true, false_or, or_false, false_and, and_false, not_true, not_false_iff, if_true, if_false, eq_self, Bool.false_eq_true, cl2_id, Bool.not_true, Bool.not_false]
  have nx : ∀ (m : Me) u, MS m s → (∀ b j, b ≠ 145 → ¬ (b = 138 ∧ j = 21) → (setI (cpM m 143 0 145 (62 * u) 62) 138 21 (nI (u + 1))).1 b j = m.1 b j) ∧ (∀ k, k < 62 → (setI (cpM m 143 0 145 (62 * u) 62) 138 21 (nI (u + 1))).1 145 (62 * u + k) = nI (s k)) ∧ ∀ i k, i < u → k < 62 → (setI (cpM m 143 0 145 (62 * u) 62) 138 21 (nI (u + 1))).1 145 (62 * i + k) = m.1 145 (62 * i + k) := by
    intro m u hs
    refine ⟨fun b j hb hc => ?_, fun k hk => ?_, fun i k hi hk => ?_⟩
    · rw [sI_1, if_neg hc, cpM_na hb]
    · rw [sI_na (by decide), cpM_in hk, Nat.zero_add]
      exact hs k hk
    · rw [sI_na (by decide), cpM_out (by omega)]
  by_cases q : U < 16
  · obtain ⟨n1, n2, n3⟩ := nx m U hs
    have hne : ¬ U = 16 := by omega
    refine ⟨_, ?_, n1, rfl, U, 0, by omega, Or.inl ⟨q, rfl, rfl⟩, sI_eq _ _ _ _, n2, n3⟩
    unfold fX11_note
    simp (disch := omega) only [h, hne, cl2_so, cl1_so, ck_tr, zl_0, zl_1, zl_2, zl_3, zl_4, zl_5, zl_6, zl_7, zl_8, zl_9, zl_10, zl_11, zl_12, zl_15, zl_16, zl_20, zl_24, zl_25, zl_30, zl_31, zl_32, zl_33, zl_44, zl_48, zl_50, zl_57, zl_59, zl_60, zl_61, zl_62, zl_63, zl_64, zl_68, zl_97, zl_99, zl_100, zl_104, zl_108, zl_114, zl_120, zl_122, zl_126, zl_132, zl_180, zl_181, zl_186, zl_255, zl_900, zl_930, zl_1000, zl_1000000, nI_add, pk_mul, zs_sub, zs_lt, zs_le, zs_eq, zs_inb, zs_cl, zm_eq, zm_eq2, zm_lt, zm_le, mz_lt, mz_le, mm_eq, zs_bit, zs_or1, zs_div, zs_rem, ck_pos, if_pos, if_neg, true_or, or_true, true_and, and_true, false_or, or_false, false_and, and_false, not_true, not_false_iff, if_true, if_false, eq_self, Bool.false_eq_true, cl2_id, Bool.not_true, Bool.not_false]
    exact go m U (by omega) h
  · have hU16 : U = 16 := by omega
    subst hU16
    have e1 := nt11 m 930 0 FU (by omega) (FU_pos (by omega))
    rw [shf_0] at e1
    have c1 : (shf m 930).1 138 21 = nI 16 := h
    rw [c1, zs_sub (by omega)] at e1
    have hs2 : MS (setI (shf m 930) 138 21 (nI 15)) s := fun k hk => ((sI_na (by decide)).trans (by rw [shf_1, if_neg (by omega)])).trans (hs k hk)
    obtain ⟨n1, n2, n3⟩ := nx (setI (shf m 930) 138 21 (nI 15)) 15 hs2
    refine ⟨setI (cpM (setI (shf m 930) 138 21 (nI 15)) 143 0 145 (62 * 15) 62) 138 21 (nI (15 + 1)), ?_, fun b j hb hc => ?_, rfl, 15, 1, by omega, Or.inr ⟨rfl, rfl, rfl⟩, sI_eq _ _ _ _, n2, fun i k hi hk => ?_⟩
    · unfold fX11_note
      simp (disch := omega) only [h, cl2_so, cl1_so, ck_tr, zl_0, zl_1, zl_2, zl_3, zl_4, zl_5, zl_6, zl_7, zl_8, zl_9, zl_10, zl_11, zl_12, zl_15, zl_16, zl_20, zl_24, zl_25, zl_30, zl_31, zl_32, zl_33, zl_44, zl_48, zl_50, zl_57, zl_59, zl_60, zl_61, zl_62, zl_63, zl_64, zl_68, zl_97, zl_99, zl_100, zl_104, zl_108, zl_114, zl_120, zl_122, zl_126, zl_132, zl_180, zl_181, zl_186, zl_255, zl_900, zl_930, zl_1000, zl_1000000, nI_add, pk_mul, zs_sub, zs_lt, zs_le, zs_eq, zs_inb, zs_cl, zm_eq, zm_eq2, zm_lt, zm_le, mz_lt, mz_le, mm_eq, zs_bit, zs_or1, zs_div, zs_rem, ck_pos, if_pos, if_neg, true_or, or_true, true_and, and_true, false_or, or_false, false_and, and_false, not_true, not_false_iff, if_true, if_false, eq_self, Bool.false_eq_true, cl2_id, Bool.not_true, Bool.not_false]
      exact e1.trans (go _ 15 (by omega) (sI_eq _ _ _ _))
    · rw [n1 b j hb hc, sI_1, if_neg hc, shf_1, if_neg (fun z => hb z.1)]
    · rw [n3 i k hi hk, sI_na (by decide), shf_1, if_pos ⟨rfl, by omega⟩]
      rw [show 62 * i + k + 62 = 62 * (i + 1) + k by omega]
