/-! units of lines, as the reference reads them -/
theorem kM_le (κ : Nat) : kM κ ≤ 59 := by
  unfold kM
  repeat' split
  all_goals omega
theorem kM_2 {κ : Nat} : kM κ = 2 ↔ κ = 1 := by
  unfold kM
  repeat' split
  all_goals omega
theorem kM_3 {κ : Nat} : kM κ = 3 ↔ κ = 2 := by
  unfold kM
  repeat' split
  all_goals omega
theorem kM_0 {κ : Nat} : kM κ = 0 ↔ κ = 0 := by
  unfold kM
  repeat' split
  all_goals omega
theorem kM_59 {κ : Nat} : kM κ = 59 ↔ κ = 3 := by
  unfold kM
  repeat' split
  all_goals omega
theorem kM_44 {κ : Nat} : kM κ = 44 ↔ κ = 4 := by
  unfold kM
  repeat' split
  all_goals omega
section UNITM
variable {N : Nat} {b : Nat → Nat} {m : Me} {a n κ a' n' κ' : Nat}
/-- the reference looks at a token -/
def LM (m : Me) (N : Nat) (b : Nat → Nat) (a n κ : Nat) : Prop := XM m N b ∧ TM m b a n κ ∧ TO N b a n κ ∧ m.1 138 13 = nI 0
theorem LM.gm {m' : Me} (h : LM m N b a n κ) (e : Gm m m') (hT : TM m' b a' n' κ') (hO : TO N b a' n' κ') : LM m' N b a' n' κ' := ⟨h.1.fm e, hT, hO, (e.1 138 13 (by omega) (by omega)).trans h.2.2.2⟩
theorem LM.bd (h : LM m N b a n κ) : a + n ≤ N ∧ N ≤ 900 := ⟨h.2.2.1.1, h.1.1⟩
/-- the tables alone have changed -/
theorem LM.tb {m' : Me} (h : LM m N b a n κ) (e : ∀ x j, (x = 138 ∨ x = 139 ∨ x = 140) → m'.1 x j = m.1 x j) : LM m' N b a n κ := by
  obtain ⟨hX, ⟨t4, t5, t6, t8, t7⟩, hO, h13⟩ := h
  exact ⟨⟨hX.1, (e 138 3 (by omega)).trans hX.2.1, fun k hk => ⟨(hX.2.2 k hk).1, (e 139 k (by omega)).trans (hX.2.2 k hk).2⟩⟩, ⟨(e 138 4 (by omega)).trans t4, (e 138 5 (by omega)).trans t5, (e 138 6 (by omega)).trans t6, fun q => ⟨(e 138 8 (by omega)).trans (t8 q).1, fun k hk => (e 140 k (by omega)).trans ((t8 q).2 k hk)⟩, fun q => (e 138 7 (by omega)).trans (t7 q)⟩, hO, (e 138 13 (by omega)).trans h13⟩
theorem LM.nx (h : LM m N b a n κ) (hT : Tk N b (a + n) a' n' κ') : ∃ m', fX11_next m = some m' ∧ LM m' N b a' n' κ' ∧ Gm m m' := by
  obtain ⟨m', e, g1, g2⟩ := next_e h.1 h.2.1.2.1 h.bd.1 hT
  exact ⟨m', e, h.gm g2 g1 hT.to, g2⟩
theorem wd32z {i : Nat} (h8 : m.1 138 8 = nI n) (hn : n < 1000) : ∀ j q f, q + j = n → j < f → fX11_isWord_32 f i (nI 0) (nI q) m = some (nI 0, m) := by
  intro j
  induction j with
  | zero =>
    intro q f hq hf
    obtain ⟨f, rfl⟩ : ∃ n', f = n' + 1 := ⟨f - 1, by omega⟩
    rw [fX11_isWord_32]
    simp (disch := omega) only [h8, cl2_so, cl1_so, ck_tr, zl_0, zl_1, zl_2, zl_3, zl_4, zl_5, zl_6, zl_7, zl_8, zl_9, zl_10, zl_11, zl_12, zl_15, zl_16, zl_20, zl_24, zl_25, zl_30, zl_31, zl_32, zl_33, zl_44, zl_48, zl_50, zl_57, zl_59, zl_60, zl_61, zl_62, zl_63, zl_64, zl_68, zl_97, zl_99, zl_100, zl_104, zl_108, zl_114, zl_120, zl_122, zl_126, zl_132, zl_180, zl_181, zl_186, zl_255, zl_900, zl_930, zl_1000, zl_1000000, nI_add, pk_mul, zs_sub, zs_lt, zs_le, zs_eq, zs_inb, zs_cl, zm_eq, zm_eq2, zm_lt, zm_le, mz_lt, mz_le, mm_eq, zs_bit, zs_or1, zs_div, zs_rem, ck_pos, if_pos, if_neg, true_or, or_true, true_and, and_true, false_or, or_false, false_and, and_false, not_true, not_false_iff, if_true, if_false, eq_self, Bool.false_eq_true, cl2_id, Bool.not_true, Bool.not_false]
  | succ j ih =>
    intro q f hq hf
    obtain ⟨f, rfl⟩ : ∃ n', f = n' + 1 := ⟨f - 1, by omega⟩
    have ih' := ih (q + 1) f (by omega) (by omega)
    rw [fX11_isWord_32]
    unfold fX11_isWord_62 fX11_isWord_63
    simp (disch := omega) only [h8, cl2_so, cl1_so, ck_tr, zl_0, zl_1, zl_2, zl_3, zl_4, zl_5, zl_6, zl_7, zl_8, zl_9, zl_10, zl_11, zl_12, zl_15, zl_16, zl_20, zl_24, zl_25, zl_30, zl_31, zl_32, zl_33, zl_44, zl_48, zl_50, zl_57, zl_59, zl_60, zl_61, zl_62, zl_63, zl_64, zl_68, zl_97, zl_99, zl_100, zl_104, zl_108, zl_114, zl_120, zl_122, zl_126, zl_132, zl_180, zl_181, zl_186, zl_255, zl_900, zl_930, zl_1000, zl_1000000, nI_add, pk_mul, zs_sub, zs_lt, zs_le, zs_eq, zs_inb, zs_cl, zm_eq, zm_eq2, zm_lt, zm_le, mz_lt, mz_le, mm_eq, zs_bit, zs_or1, zs_div, zs_rem, ck_pos, if_pos, if_neg, true_or, or_true, true_and, and_true, false_or, or_false, false_and, and_false, not_true, not_false_iff, if_true, if_false, eq_self, Bool.false_eq_true, cl2_id, Bool.not_true, Bool.not_false]
    exact ih'
theorem wd32 (h : LM m N b a n κ) {i : Nat} (hi : i < 32) (hk : κ = 1) (hn : n = slen i) : ∀ j q f, q + j = n → j < f → fX11_isWord_32 f i (nI 1) (nI q) m = some (nI (if z_al (fun k => decide (nI (b (a + k)) = sch i k)) q j then 1 else 0), m) := by
  obtain ⟨hX, ⟨t4, t5, t6, t8, t7⟩, ⟨o1, o2, o3, o4, o5, o6⟩, h13⟩ := h
  obtain ⟨h8, hl⟩ := t8 hk
  have hN := hX.1
  have hn8 := (o5 hk).1
  intro j
  induction j with
  | zero =>
    intro q f hq hf
    obtain ⟨f, rfl⟩ : ∃ n', f = n' + 1 := ⟨f - 1, by omega⟩
    rw [fX11_isWord_32, z_al]
    simp (disch := omega) only [h8, cl2_so, cl1_so, ck_tr, zl_0, zl_1, zl_2, zl_3, zl_4, zl_5, zl_6, zl_7, zl_8, zl_9, zl_10, zl_11, zl_12, zl_15, zl_16, zl_20, zl_24, zl_25, zl_30, zl_31, zl_32, zl_33, zl_44, zl_48, zl_50, zl_57, zl_59, zl_60, zl_61, zl_62, zl_63, zl_64, zl_68, zl_97, zl_99, zl_100, zl_104, zl_108, zl_114, zl_120, zl_122, zl_126, zl_132, zl_180, zl_181, zl_186, zl_255, zl_900, zl_930, zl_1000, zl_1000000, nI_add, pk_mul, zs_sub, zs_lt, zs_le, zs_eq, zs_inb, zs_cl, zm_eq, zm_eq2, zm_lt, zm_le, mz_lt, mz_le, mm_eq, zs_bit, zs_or1, zs_div, zs_rem, ck_pos, if_pos, if_neg, true_or, or_true, true_and, and_true, false_or, or_false, false_and, and_false, not_true, not_false_iff, if_true, if_false, eq_self, Bool.false_eq_true, cl2_id, Bool.not_true, Bool.not_false]
  | succ j ih =>
    intro q f hq hf
    obtain ⟨f, rfl⟩ : ∃ n', f = n' + 1 := ⟨f - 1, by omega⟩
    have ih' := ih (q + 1) f (by omega) (by omega)
    have hz := wd32z (i := i) h8 (by omega) j (q + 1) f (by omega) (by omega)
    have hx := hl q (by omega)
    rw [fX11_isWord_32, z_al]
    unfold fX11_isWord_62 fX11_isWord_63
    by_cases hc : nI (b (a + q)) = sch i q
    · simp (disch := omega) only [h8, ch_e, hx, hc, decide_true, Bool.true_and, cl2_so, cl1_so, ck_tr, zl_0, zl_1, zl_2, zl_3, zl_4, zl_5, zl_6, zl_7, zl_8, zl_9, zl_10, zl_11, zl_12, zl_15, zl_16, zl_20, zl_24, zl_25, zl_30, zl_31, zl_32, zl_33, zl_44, zl_48, zl_50, zl_57, zl_59, zl_60, zl_61, zl_62, zl_63, zl_64, zl_68, zl_97, zl_99, zl_100, zl_104, zl_108, zl_114, zl_120, zl_122, zl_126, zl_132, zl_180, zl_181, zl_186, zl_255, zl_900, zl_930, zl_1000, zl_1000000, nI_add, pk_mul, zs_sub, zs_lt, zs_le, zs_eq, zs_inb, zs_cl, zm_eq, zm_eq2, zm_lt, zm_le, mz_lt, mz_le, mm_eq, zs_bit, zs_or1, zs_div, zs_rem, ck_pos, if_pos, if_neg, true_or, or_true, true_and, and_true, false_or, or_false, false_and, and_false, not_true, not_false_iff, if_true, if_false, eq_self, Bool.false_eq_true, cl2_id, Bool.not_true, Bool.not_false]
      exact ih'
    · simp (disch := omega) only [h8, ch_e, hx, hc, decide_false, Bool.false_and, cl2_so, cl1_so, ck_tr, zl_0, zl_1, zl_2, zl_3, zl_4, zl_5, zl_6, zl_7, zl_8, zl_9, zl_10, zl_11, zl_12, zl_15, zl_16, zl_20, zl_24, zl_25, zl_30, zl_31, zl_32, zl_33, zl_44, zl_48, zl_50, zl_57, zl_59, zl_60, zl_61, zl_62, zl_63, zl_64, zl_68, zl_97, zl_99, zl_100, zl_104, zl_108, zl_114, zl_120, zl_122, zl_126, zl_132, zl_180, zl_181, zl_186, zl_255, zl_900, zl_930, zl_1000, zl_1000000, nI_add, pk_mul, zs_sub, zs_lt, zs_le, zs_eq, zs_inb, zs_cl, zm_eq, zm_eq2, zm_lt, zm_le, mz_lt, mz_le, mm_eq, zs_bit, zs_or1, zs_div, zs_rem, ck_pos, if_pos, if_neg, true_or, or_true, true_and, and_true, false_or, or_false, false_and, and_false, not_true, not_false_iff, if_true, if_false, eq_self, Bool.false_eq_true, cl2_id, Bool.not_true, Bool.not_false]
      exact hz
theorem wd_e (h : LM m N b a n κ) {i : Nat} (hi : i < 32) : fX11_isWord i m = some (nI (if isB b a n κ i then 1 else 0), m) := by
  have hs := slen_le i hi
  obtain ⟨hX, ⟨t4, t5, t6, t8, t7⟩, ⟨o1, o2, o3, o4, o5, o6⟩, h13⟩ := id h
  have hN := hX.1
  have hkM := kM_le κ
  unfold fX11_isWord fX11_isWord_26 isB
  by_cases hk : κ = 1
  · obtain ⟨h8, hl⟩ := t8 hk
    have k2 : kM κ = 2 := kM_2.mpr hk
    by_cases hn : n = slen i
    · have := wd32 h hi hk hn n 0 FU (by omega) (FU_pos (by omega))
      rw [h13, if_pos (by decide), t6, k2, if_pos (by decide), len_e, cl2_so, h8, hn, if_pos rfl, ← hn]
      refine this.trans ?_
      rw [decide_eq_true ⟨hk, rfl⟩, Bool.true_and]
    · have hd : decide (κ = 1 ∧ n = slen i) = false := decide_eq_false (fun q => hn q.2)
      rw [hd, Bool.false_and, h13, t6, k2]
      simp (disch := omega) only [len_e, h8, hn, cl2_so, cl1_so, ck_tr, zl_0, zl_1, zl_2, zl_3, zl_4, zl_5, zl_6, zl_7, zl_8, zl_9, zl_10, zl_11, zl_12, zl_15, zl_16, zl_20, zl_24, zl_25, zl_30, zl_31, zl_32, zl_33, zl_44, zl_48, zl_50, zl_57, zl_59, zl_60, zl_61, zl_62, zl_63, zl_64, zl_68, zl_97, zl_99, zl_100, zl_104, zl_108, zl_114, zl_120, zl_122, zl_126, zl_132, zl_180, zl_181, zl_186, zl_255, zl_900, zl_930, zl_1000, zl_1000000, nI_add, pk_mul, zs_sub, zs_lt, zs_le, zs_eq, zs_inb, zs_cl, zm_eq, zm_eq2, zm_lt, zm_le, mz_lt, mz_le, mm_eq, zs_bit, zs_or1, zs_div, zs_rem, ck_pos, if_pos, if_neg, true_or, or_true, true_and, and_true, false_or, or_false, false_and, and_false, not_true, not_false_iff, if_true, if_false, eq_self, Bool.false_eq_true, cl2_id, Bool.not_true, Bool.not_false]
  · have hd : decide (κ = 1 ∧ n = slen i) = false := decide_eq_false (fun q => hk q.1)
    have k2 : ¬ kM κ = 2 := fun q => hk (kM_2.mp q)
    rw [hd, Bool.false_and]
    simp (disch := omega) only [h13, t6, k2, cl2_so, cl1_so, ck_tr, zl_0, zl_1, zl_2, zl_3, zl_4, zl_5, zl_6, zl_7, zl_8, zl_9, zl_10, zl_11, zl_12, zl_15, zl_16, zl_20, zl_24, zl_25, zl_30, zl_31, zl_32, zl_33, zl_44, zl_48, zl_50, zl_57, zl_59, zl_60, zl_61, zl_62, zl_63, zl_64, zl_68, zl_97, zl_99, zl_100, zl_104, zl_108, zl_114, zl_120, zl_122, zl_126, zl_132, zl_180, zl_181, zl_186, zl_255, zl_900, zl_930, zl_1000, zl_1000000, nI_add, pk_mul, zs_sub, zs_lt, zs_le, zs_eq, zs_inb, zs_cl, zm_eq, zm_eq2, zm_lt, zm_le, mz_lt, mz_le, mm_eq, zs_bit, zs_or1, zs_div, zs_rem, ck_pos, if_pos, if_neg, true_or, or_true, true_and, and_true, false_or, or_false, false_and, and_false, not_true, not_false_iff, if_true, if_false, eq_self, Bool.false_eq_true, cl2_id, Bool.not_true, Bool.not_false]
theorem wd_d (h : m.1 138 13 = nI 1) (i : Nat) : fX11_isWord i m = some (nI 0, m) := by
  unfold fX11_isWord fX11_isWord_26
  simp (disch := omega) only [h, cl2_so, cl1_so, ck_tr, zl_0, zl_1, zl_2, zl_3, zl_4, zl_5, zl_6, zl_7, zl_8, zl_9, zl_10, zl_11, zl_12, zl_15, zl_16, zl_20, zl_24, zl_25, zl_30, zl_31, zl_32, zl_33, zl_44, zl_48, zl_50, zl_57, zl_59, zl_60, zl_61, zl_62, zl_63, zl_64, zl_68, zl_97, zl_99, zl_100, zl_104, zl_108, zl_114, zl_120, zl_122, zl_126, zl_132, zl_180, zl_181, zl_186, zl_255, zl_900, zl_930, zl_1000, zl_1000000, nI_add, pk_mul, zs_sub, zs_lt, zs_le, zs_eq, zs_inb, zs_cl, zm_eq, zm_eq2, zm_lt, zm_le, mz_lt, mz_le, mm_eq, zs_bit, zs_or1, zs_div, zs_rem, ck_pos, if_pos, if_neg, true_or, or_true, true_and, and_true, false_or, or_false, false_and, and_false, not_true, not_false_iff, if_true, if_false, eq_self, Bool.false_eq_true, cl2_id, Bool.not_true, Bool.not_false]
theorem tks_1 (h : LM m N b a n κ) (hT : Tk N b (a + n) a' n' κ') {i : Nat} (hi : i < 32) (hb : isB b a n κ i = true) : ∃ m', fX11_takes i m = some (nI 1, m') ∧ LM m' N b a' n' κ' ∧ Gm m m' := by
  obtain ⟨m', e, g1, g2⟩ := h.nx hT
  refine ⟨m', ?_, g1, g2⟩
  unfold fX11_takes
  simp (disch := omega) only [wd_e h hi, hb, e, cl2_so, cl1_so, ck_tr, zl_0, zl_1, zl_2, zl_3, zl_4, zl_5, zl_6, zl_7, zl_8, zl_9, zl_10, zl_11, zl_12, zl_15, zl_16, zl_20, zl_24, zl_25, zl_30, zl_31, zl_32, zl_33, zl_44, zl_48, zl_50, zl_57, zl_59, zl_60, zl_61, zl_62, zl_63, zl_64, zl_68, zl_97, zl_99, zl_100, zl_104, zl_108, zl_114, zl_120, zl_122, zl_126, zl_132, zl_180, zl_181, zl_186, zl_255, zl_900, zl_930, zl_1000, zl_1000000, nI_add, pk_mul, zs_sub, zs_lt, zs_le, zs_eq, zs_inb, zs_cl, zm_eq, zm_eq2, zm_lt, zm_le, mz_lt, mz_le, mm_eq, zs_bit, zs_or1, zs_div, zs_rem, ck_pos, if_pos, if_neg, true_or, or_true, true_and, and_true, false_or, or_false, false_and, and_false, not_true, not_false_iff, if_true, if_false, eq_self, Bool.false_eq_true, cl2_id, Bool.not_true, Bool.not_false]
theorem tks_0 (h : LM m N b a n κ) {i : Nat} (hi : i < 32) (hb : isB b a n κ i = false) : fX11_takes i m = some (nI 0, m) := by
  unfold fX11_takes
  simp (disch := omega) only [wd_e h hi, hb, cl2_so, cl1_so, ck_tr, zl_0, zl_1, zl_2, zl_3, zl_4, zl_5, zl_6, zl_7, zl_8, zl_9, zl_10, zl_11, zl_12, zl_15, zl_16, zl_20, zl_24, zl_25, zl_30, zl_31, zl_32, zl_33, zl_44, zl_48, zl_50, zl_57, zl_59, zl_60, zl_61, zl_62, zl_63, zl_64, zl_68, zl_97, zl_99, zl_100, zl_104, zl_108, zl_114, zl_120, zl_122, zl_126, zl_132, zl_180, zl_181, zl_186, zl_255, zl_900, zl_930, zl_1000, zl_1000000, nI_add, pk_mul, zs_sub, zs_lt, zs_le, zs_eq, zs_inb, zs_cl, zm_eq, zm_eq2, zm_lt, zm_le, mz_lt, mz_le, mm_eq, zs_bit, zs_or1, zs_div, zs_rem, ck_pos, if_pos, if_neg, true_or, or_true, true_and, and_true, false_or, or_false, false_and, and_false, not_true, not_false_iff, if_true, if_false, eq_self, Bool.false_eq_true, cl2_id, Bool.not_true, Bool.not_false]
theorem tks_d (h : m.1 138 13 = nI 1) (i : Nat) : fX11_takes i m = some (nI 0, m) := by
  unfold fX11_takes
  simp (disch := omega) only [wd_d h, cl2_so, cl1_so, ck_tr, zl_0, zl_1, zl_2, zl_3, zl_4, zl_5, zl_6, zl_7, zl_8, zl_9, zl_10, zl_11, zl_12, zl_15, zl_16, zl_20, zl_24, zl_25, zl_30, zl_31, zl_32, zl_33, zl_44, zl_48, zl_50, zl_57, zl_59, zl_60, zl_61, zl_62, zl_63, zl_64, zl_68, zl_97, zl_99, zl_100, zl_104, zl_108, zl_114, zl_120, zl_122, zl_126, zl_132, zl_180, zl_181, zl_186, zl_255, zl_900, zl_930, zl_1000, zl_1000000, nI_add, pk_mul, zs_sub, zs_lt, zs_le, zs_eq, zs_inb, zs_cl, zm_eq, zm_eq2, zm_lt, zm_le, mz_lt, mz_le, mm_eq, zs_bit, zs_or1, zs_div, zs_rem, ck_pos, if_pos, if_neg, true_or, or_true, true_and, and_true, false_or, or_false, false_and, and_false, not_true, not_false_iff, if_true, if_false, eq_self, Bool.false_eq_true, cl2_id, Bool.not_true, Bool.not_false]
theorem mus_1 (h : LM m N b a n κ) (hT : Tk N b (a + n) a' n' κ') {i : Nat} (hi : i < 32) (hb : isB b a n κ i = true) : ∃ m', fX11_must i m = some m' ∧ LM m' N b a' n' κ' ∧ Gm m m' := by
  obtain ⟨m', e, g1, g2⟩ := tks_1 h hT hi hb
  refine ⟨m', ?_, g1, g2⟩
  unfold fX11_must fX11_must_24
  simp (disch := omega) only [h.2.2.2, e, cl2_so, cl1_so, ck_tr, zl_0, zl_1, zl_2, zl_3, zl_4, zl_5, zl_6, zl_7, zl_8, zl_9, zl_10, zl_11, zl_12, zl_15, zl_16, zl_20, zl_24, zl_25, zl_30, zl_31, zl_32, zl_33, zl_44, zl_48, zl_50, zl_57, zl_59, zl_60, zl_61, zl_62, zl_63, zl_64, zl_68, zl_97, zl_99, zl_100, zl_104, zl_108, zl_114, zl_120, zl_122, zl_126, zl_132, zl_180, zl_181, zl_186, zl_255, zl_900, zl_930, zl_1000, zl_1000000, nI_add, pk_mul, zs_sub, zs_lt, zs_le, zs_eq, zs_inb, zs_cl, zm_eq, zm_eq2, zm_lt, zm_le, mz_lt, mz_le, mm_eq, zs_bit, zs_or1, zs_div, zs_rem, ck_pos, if_pos, if_neg, true_or, or_true, true_and, and_true, false_or, or_false, false_and, and_false, not_true, not_false_iff, if_true, if_false, eq_self, Bool.false_eq_true, cl2_id, Bool.not_true, Bool.not_false]
theorem mus_0 (h : LM m N b a n κ) {i : Nat} (hi : i < 32) (hb : isB b a n κ i = false) : fX11_must i m = some (wrM m 1 a) := by
  unfold fX11_must fX11_must_24
  simp (disch := omega) only [h.2.2.2, tks_0 h hi hb, h.2.1.1, wrong_e h.2.2.2, cl2_so, cl1_so, ck_tr, zl_0, zl_1, zl_2, zl_3, zl_4, zl_5, zl_6, zl_7, zl_8, zl_9, zl_10, zl_11, zl_12, zl_15, zl_16, zl_20, zl_24, zl_25, zl_30, zl_31, zl_32, zl_33, zl_44, zl_48, zl_50, zl_57, zl_59, zl_60, zl_61, zl_62, zl_63, zl_64, zl_68, zl_97, zl_99, zl_100, zl_104, zl_108, zl_114, zl_120, zl_122, zl_126, zl_132, zl_180, zl_181, zl_186, zl_255, zl_900, zl_930, zl_1000, zl_1000000, nI_add, pk_mul, zs_sub, zs_lt, zs_le, zs_eq, zs_inb, zs_cl, zm_eq, zm_eq2, zm_lt, zm_le, mz_lt, mz_le, mm_eq, zs_bit, zs_or1, zs_div, zs_rem, ck_pos, if_pos, if_neg, true_or, or_true, true_and, and_true, false_or, or_false, false_and, and_false, not_true, not_false_iff, if_true, if_false, eq_self, Bool.false_eq_true, cl2_id, Bool.not_true, Bool.not_false]
theorem mus_d (h : m.1 138 13 = nI 1) (i : Nat) : fX11_must i m = some m := by
  unfold fX11_must fX11_must_24
  simp (disch := omega) only [h, cl2_so, cl1_so, ck_tr, zl_0, zl_1, zl_2, zl_3, zl_4, zl_5, zl_6, zl_7, zl_8, zl_9, zl_10, zl_11, zl_12, zl_15, zl_16, zl_20, zl_24, zl_25, zl_30, zl_31, zl_32, zl_33, zl_44, zl_48, zl_50, zl_57, zl_59, zl_60, zl_61, zl_62, zl_63, zl_64, zl_68, zl_97, zl_99, zl_100, zl_104, zl_108, zl_114, zl_120, zl_122, zl_126, zl_132, zl_180, zl_181, zl_186, zl_255, zl_900, zl_930, zl_1000, zl_1000000, nI_add, pk_mul, zs_sub, zs_lt, zs_le, zs_eq, zs_inb, zs_cl, zm_eq, zm_eq2, zm_lt, zm_le, mz_lt, mz_le, mm_eq, zs_bit, zs_or1, zs_div, zs_rem, ck_pos, if_pos, if_neg, true_or, or_true, true_and, and_true, false_or, or_false, false_and, and_false, not_true, not_false_iff, if_true, if_false, eq_self, Bool.false_eq_true, cl2_id, Bool.not_true, Bool.not_false]
theorem mw_1 (h : LM m N b a n κ) (hk : κ = 1) : fX11_mustWord m = some m := by
  have k2 : kM κ = 2 := kM_2.mpr hk
  unfold fX11_mustWord fX11_mustWord_24
  simp (disch := omega) only [h.2.2.2, h.2.1.2.2.1, k2, cl2_so, cl1_so, ck_tr, zl_0, zl_1, zl_2, zl_3, zl_4, zl_5, zl_6, zl_7, zl_8, zl_9, zl_10, zl_11, zl_12, zl_15, zl_16, zl_20, zl_24, zl_25, zl_30, zl_31, zl_32, zl_33, zl_44, zl_48, zl_50, zl_57, zl_59, zl_60, zl_61, zl_62, zl_63, zl_64, zl_68, zl_97, zl_99, zl_100, zl_104, zl_108, zl_114, zl_120, zl_122, zl_126, zl_132, zl_180, zl_181, zl_186, zl_255, zl_900, zl_930, zl_1000, zl_1000000, nI_add, pk_mul, zs_sub, zs_lt, zs_le, zs_eq, zs_inb, zs_cl, zm_eq, zm_eq2, zm_lt, zm_le, mz_lt, mz_le, mm_eq, zs_bit, zs_or1, zs_div, zs_rem, ck_pos, if_pos, if_neg, true_or, or_true, true_and, and_true, false_or, or_false, false_and, and_false, not_true, not_false_iff, if_true, if_false, eq_self, Bool.false_eq_true, cl2_id, Bool.not_true, Bool.not_false]
theorem mw_0 (h : LM m N b a n κ) (hk : κ ≠ 1) : fX11_mustWord m = some (wrM m 1 a) := by
  have k2 : ¬ kM κ = 2 := fun q => hk (kM_2.mp q)
  have := kM_le κ
  unfold fX11_mustWord fX11_mustWord_24
  simp (disch := omega) only [h.2.2.2, h.2.1.2.2.1, k2, h.2.1.1, wrong_e h.2.2.2, cl2_so, cl1_so, ck_tr, zl_0, zl_1, zl_2, zl_3, zl_4, zl_5, zl_6, zl_7, zl_8, zl_9, zl_10, zl_11, zl_12, zl_15, zl_16, zl_20, zl_24, zl_25, zl_30, zl_31, zl_32, zl_33, zl_44, zl_48, zl_50, zl_57, zl_59, zl_60, zl_61, zl_62, zl_63, zl_64, zl_68, zl_97, zl_99, zl_100, zl_104, zl_108, zl_114, zl_120, zl_122, zl_126, zl_132, zl_180, zl_181, zl_186, zl_255, zl_900, zl_930, zl_1000, zl_1000000, nI_add, pk_mul, zs_sub, zs_lt, zs_le, zs_eq, zs_inb, zs_cl, zm_eq, zm_eq2, zm_lt, zm_le, mz_lt, mz_le, mm_eq, zs_bit, zs_or1, zs_div, zs_rem, ck_pos, if_pos, if_neg, true_or, or_true, true_and, and_true, false_or, or_false, false_and, and_false, not_true, not_false_iff, if_true, if_false, eq_self, Bool.false_eq_true, cl2_id, Bool.not_true, Bool.not_false]
theorem mw_d (h : m.1 138 13 = nI 1) : fX11_mustWord m = some m := by
  unfold fX11_mustWord fX11_mustWord_24
  simp (disch := omega) only [h, cl2_so, cl1_so, ck_tr, zl_0, zl_1, zl_2, zl_3, zl_4, zl_5, zl_6, zl_7, zl_8, zl_9, zl_10, zl_11, zl_12, zl_15, zl_16, zl_20, zl_24, zl_25, zl_30, zl_31, zl_32, zl_33, zl_44, zl_48, zl_50, zl_57, zl_59, zl_60, zl_61, zl_62, zl_63, zl_64, zl_68, zl_97, zl_99, zl_100, zl_104, zl_108, zl_114, zl_120, zl_122, zl_126, zl_132, zl_180, zl_181, zl_186, zl_255, zl_900, zl_930, zl_1000, zl_1000000, nI_add, pk_mul, zs_sub, zs_lt, zs_le, zs_eq, zs_inb, zs_cl, zm_eq, zm_eq2, zm_lt, zm_le, mz_lt, mz_le, mm_eq, zs_bit, zs_or1, zs_div, zs_rem, ck_pos, if_pos, if_neg, true_or, or_true, true_and, and_true, false_or, or_false, false_and, and_false, not_true, not_false_iff, if_true, if_false, eq_self, Bool.false_eq_true, cl2_id, Bool.not_true, Bool.not_false]
theorem LM.wv_lt (h : LM m N b a n κ) (hk : κ = 2) : wv b a n < 1000 := by
  obtain ⟨hX, -, ⟨o1, o2, o3, o4, o5, o6⟩, h13⟩ := h
  exact Nat.lt_of_lt_of_le (Jvm.Pilot.CFanPartsLaw_law_r1864_615eae.wv_lt n (o6 hk).2) (Nat.le_trans (Nat.pow_le_pow_right (n := 10) (j := 3) (by decide) (o6 hk).1) (by decide))
theorem num_1 (h : LM m N b a n κ) (hT : Tk N b (a + n) a' n' κ') {lo hi : Nat} (hl : lo < 1000) (hh : hi < 1000) (hk : κ = 2) (hv : lo ≤ wv b a n ∧ wv b a n ≤ hi) : ∃ m', fX11_number (nI lo) (nI hi) m = some (nI (wv b a n), m') ∧ LM m' N b a' n' κ' ∧ Gm m m' := by
  obtain ⟨m', e, g1, g2⟩ := h.nx hT
  have hw := h.wv_lt hk
  have k3 : kM κ = 3 := kM_3.mpr hk
  have e7 := h.2.1.2.2.2.2 hk
  refine ⟨m', ?_, g1, g2⟩
  unfold fX11_number
  simp (disch := omega) only [h.2.2.2, h.2.1.2.2.1, k3, e7, within_e, e, cl2_so, cl1_so, ck_tr, zl_0, zl_1, zl_2, zl_3, zl_4, zl_5, zl_6, zl_7, zl_8, zl_9, zl_10, zl_11, zl_12, zl_15, zl_16, zl_20, zl_24, zl_25, zl_30, zl_31, zl_32, zl_33, zl_44, zl_48, zl_50, zl_57, zl_59, zl_60, zl_61, zl_62, zl_63, zl_64, zl_68, zl_97, zl_99, zl_100, zl_104, zl_108, zl_114, zl_120, zl_122, zl_126, zl_132, zl_180, zl_181, zl_186, zl_255, zl_900, zl_930, zl_1000, zl_1000000, nI_add, pk_mul, zs_sub, zs_lt, zs_le, zs_eq, zs_inb, zs_cl, zm_eq, zm_eq2, zm_lt, zm_le, mz_lt, mz_le, mm_eq, zs_bit, zs_or1, zs_div, zs_rem, ck_pos, if_pos, if_neg, true_or, or_true, true_and, and_true, false_or, or_false, false_and, and_false, not_true, not_false_iff, if_true, if_false, eq_self, Bool.false_eq_true, cl2_id, Bool.not_true, Bool.not_false]
theorem num_0 (h : LM m N b a n κ) {lo hi : Nat} (hl : lo < 1000) (hh : hi < 1000) (hk : κ = 2) (hv : ¬ (lo ≤ wv b a n ∧ wv b a n ≤ hi)) : fX11_number (nI lo) (nI hi) m = some (nI lo, wrM m 4 a) := by
  have hw := h.wv_lt hk
  have k3 : kM κ = 3 := kM_3.mpr hk
  have e7 := h.2.1.2.2.2.2 hk
  unfold fX11_number
  simp (disch := omega) only [h.2.2.2, h.2.1.2.2.1, k3, e7, within_e, hv, h.2.1.1, wrong_e h.2.2.2, cl2_so, cl1_so, ck_tr, zl_0, zl_1, zl_2, zl_3, zl_4, zl_5, zl_6, zl_7, zl_8, zl_9, zl_10, zl_11, zl_12, zl_15, zl_16, zl_20, zl_24, zl_25, zl_30, zl_31, zl_32, zl_33, zl_44, zl_48, zl_50, zl_57, zl_59, zl_60, zl_61, zl_62, zl_63, zl_64, zl_68, zl_97, zl_99, zl_100, zl_104, zl_108, zl_114, zl_120, zl_122, zl_126, zl_132, zl_180, zl_181, zl_186, zl_255, zl_900, zl_930, zl_1000, zl_1000000, nI_add, pk_mul, zs_sub, zs_lt, zs_le, zs_eq, zs_inb, zs_cl, zm_eq, zm_eq2, zm_lt, zm_le, mz_lt, mz_le, mm_eq, zs_bit, zs_or1, zs_div, zs_rem, ck_pos, if_pos, if_neg, true_or, or_true, true_and, and_true, false_or, or_false, false_and, and_false, not_true, not_false_iff, if_true, if_false, eq_self, Bool.false_eq_true, cl2_id, Bool.not_true, Bool.not_false]
theorem num_n (h : LM m N b a n κ) (hk : κ ≠ 2) (x y : Int32) : fX11_number x y m = some (x, wrM m 1 a) := by
  have k3 : ¬ kM κ = 3 := fun q => hk (kM_3.mp q)
  have := kM_le κ
  unfold fX11_number
  simp (disch := omega) only [h.2.2.2, h.2.1.2.2.1, k3, h.2.1.1, wrong_e h.2.2.2, cl2_so, cl1_so, ck_tr, zl_0, zl_1, zl_2, zl_3, zl_4, zl_5, zl_6, zl_7, zl_8, zl_9, zl_10, zl_11, zl_12, zl_15, zl_16, zl_20, zl_24, zl_25, zl_30, zl_31, zl_32, zl_33, zl_44, zl_48, zl_50, zl_57, zl_59, zl_60, zl_61, zl_62, zl_63, zl_64, zl_68, zl_97, zl_99, zl_100, zl_104, zl_108, zl_114, zl_120, zl_122, zl_126, zl_132, zl_180, zl_181, zl_186, zl_255, zl_900, zl_930, zl_1000, zl_1000000, nI_add, pk_mul, zs_sub, zs_lt, zs_le, zs_eq, zs_inb, zs_cl, zm_eq, zm_eq2, zm_lt, zm_le, mz_lt, mz_le, mm_eq, zs_bit, zs_or1, zs_div, zs_rem, ck_pos, if_pos, if_neg, true_or, or_true, true_and, and_true, false_or, or_false, false_and, and_false, not_true, not_false_iff, if_true, if_false, eq_self, Bool.false_eq_true, cl2_id, Bool.not_true, Bool.not_false]
theorem num_d (h : m.1 138 13 = nI 1) (x y : Int32) : fX11_number x y m = some (x, m) := by
  unfold fX11_number
  simp (disch := omega) only [h, cl2_so, cl1_so, ck_tr, zl_0, zl_1, zl_2, zl_3, zl_4, zl_5, zl_6, zl_7, zl_8, zl_9, zl_10, zl_11, zl_12, zl_15, zl_16, zl_20, zl_24, zl_25, zl_30, zl_31, zl_32, zl_33, zl_44, zl_48, zl_50, zl_57, zl_59, zl_60, zl_61, zl_62, zl_63, zl_64, zl_68, zl_97, zl_99, zl_100, zl_104, zl_108, zl_114, zl_120, zl_122, zl_126, zl_132, zl_180, zl_181, zl_186, zl_255, zl_900, zl_930, zl_1000, zl_1000000, nI_add, pk_mul, zs_sub, zs_lt, zs_le, zs_eq, zs_inb, zs_cl, zm_eq, zm_eq2, zm_lt, zm_le, mz_lt, mz_le, mm_eq, zs_bit, zs_or1, zs_div, zs_rem, ck_pos, if_pos, if_neg, true_or, or_true, true_and, and_true, false_or, or_false, false_and, and_false, not_true, not_false_iff, if_true, if_false, eq_self, Bool.false_eq_true, cl2_id, Bool.not_true, Bool.not_false]
theorem tld_d (h : m.1 138 13 = nI 1) (i : Nat) (x y : Int32) : fX11_told i x y m = some (x, m) := by
  unfold fX11_told
  rw [mus_d h, cl1_so, num_d h, cl2_so]
theorem com_1 (h : LM m N b a n κ) (hT : Tk N b (a + n) a' n' κ') (hk : κ = 4) : ∃ m', fX11_comma m = some (nI 1, m') ∧ LM m' N b a' n' κ' ∧ Gm m m' := by
  obtain ⟨m', e, g1, g2⟩ := h.nx hT
  have k4 : kM κ = 44 := kM_44.mpr hk
  refine ⟨m', ?_, g1, g2⟩
  unfold fX11_comma fX11_comma_16
  simp (disch := omega) only [h.2.2.2, h.2.1.2.2.1, k4, e, cl2_so, cl1_so, ck_tr, zl_0, zl_1, zl_2, zl_3, zl_4, zl_5, zl_6, zl_7, zl_8, zl_9, zl_10, zl_11, zl_12, zl_15, zl_16, zl_20, zl_24, zl_25, zl_30, zl_31, zl_32, zl_33, zl_44, zl_48, zl_50, zl_57, zl_59, zl_60, zl_61, zl_62, zl_63, zl_64, zl_68, zl_97, zl_99, zl_100, zl_104, zl_108, zl_114, zl_120, zl_122, zl_126, zl_132, zl_180, zl_181, zl_186, zl_255, zl_900, zl_930, zl_1000, zl_1000000, nI_add, pk_mul, zs_sub, zs_lt, zs_le, zs_eq, zs_inb, zs_cl, zm_eq, zm_eq2, zm_lt, zm_le, mz_lt, mz_le, mm_eq, zs_bit, zs_or1, zs_div, zs_rem, ck_pos, if_pos, if_neg, true_or, or_true, true_and, and_true, false_or, or_false, false_and, and_false, not_true, not_false_iff, if_true, if_false, eq_self, Bool.false_eq_true, cl2_id, Bool.not_true, Bool.not_false]
theorem com_0 (h : LM m N b a n κ) (hk : κ ≠ 4) : fX11_comma m = some (nI 0, m) := by
  have k4 : ¬ kM κ = 44 := fun q => hk (kM_44.mp q)
  have := kM_le κ
  unfold fX11_comma fX11_comma_16
  simp (disch := omega) only [h.2.2.2, h.2.1.2.2.1, k4, cl2_so, cl1_so, ck_tr, zl_0, zl_1, zl_2, zl_3, zl_4, zl_5, zl_6, zl_7, zl_8, zl_9, zl_10, zl_11, zl_12, zl_15, zl_16, zl_20, zl_24, zl_25, zl_30, zl_31, zl_32, zl_33, zl_44, zl_48, zl_50, zl_57, zl_59, zl_60, zl_61, zl_62, zl_63, zl_64, zl_68, zl_97, zl_99, zl_100, zl_104, zl_108, zl_114, zl_120, zl_122, zl_126, zl_132, zl_180, zl_181, zl_186, zl_255, zl_900, zl_930, zl_1000, zl_1000000, nI_add, pk_mul, zs_sub, zs_lt, zs_le, zs_eq, zs_inb, zs_cl, zm_eq, zm_eq2, zm_lt, zm_le, mz_lt, mz_le, mm_eq, zs_bit, zs_or1, zs_div, zs_rem, ck_pos, if_pos, if_neg, true_or, or_true, true_and, and_true, false_or, or_false, false_and, and_false, not_true, not_false_iff, if_true, if_false, eq_self, Bool.false_eq_true, cl2_id, Bool.not_true, Bool.not_false]
theorem sid_1 (h : LM m N b a n κ) (hT : Tk N b (a + n) a' n' κ') {q : Nat} (hq : q = if isB b a n κ 27 then 0 else 1) (hb : isB b a n κ 27 = true ∨ isB b a n κ 28 = true) : ∃ m', fX11_side m = some (nI q, m') ∧ LM m' N b a' n' κ' ∧ Gm m m' := by
  cases hc : isB b a n κ 27
  · rw [hc] at hb hq
    have hb2 : isB b a n κ 28 = true := by simpa using hb
    have hq' : q = 1 := hq
    subst hq'
    obtain ⟨m', e, g1, g2⟩ := mus_1 h hT (i := 28) (by decide) hb2
    refine ⟨m', ?_, g1, g2⟩
    unfold fX11_side
    simp (disch := omega) only [h.2.2.2, tks_0 h (i := 27) (by decide) hc, e, cl2_so, cl1_so, ck_tr, zl_0, zl_1, zl_2, zl_3, zl_4, zl_5, zl_6, zl_7, zl_8, zl_9, zl_10, zl_11, zl_12, zl_15, zl_16, zl_20, zl_24, zl_25, zl_30, zl_31, zl_32, zl_33, zl_44, zl_48, zl_50, zl_57, zl_59, zl_60, zl_61, zl_62, zl_63, zl_64, zl_68, zl_97, zl_99, zl_100, zl_104, zl_108, zl_114, zl_120, zl_122, zl_126, zl_132, zl_180, zl_181, zl_186, zl_255, zl_900, zl_930, zl_1000, zl_1000000, nI_add, pk_mul, zs_sub, zs_lt, zs_le, zs_eq, zs_inb, zs_cl, zm_eq, zm_eq2, zm_lt, zm_le, mz_lt, mz_le, mm_eq, zs_bit, zs_or1, zs_div, zs_rem, ck_pos, if_pos, if_neg, true_or, or_true, true_and, and_true, false_or, or_false, false_and, and_false, not_true, not_false_iff, if_true, if_false, eq_self, Bool.false_eq_true, cl2_id, Bool.not_true, Bool.not_false]
  · rw [hc] at hq
    have hq' : q = 0 := hq
    subst hq'
    obtain ⟨m', e, g1, g2⟩ := tks_1 h hT (i := 27) (by decide) hc
    refine ⟨m', ?_, g1, g2⟩
    unfold fX11_side
    simp (disch := omega) only [h.2.2.2, e, cl2_so, cl1_so, ck_tr, zl_0, zl_1, zl_2, zl_3, zl_4, zl_5, zl_6, zl_7, zl_8, zl_9, zl_10, zl_11, zl_12, zl_15, zl_16, zl_20, zl_24, zl_25, zl_30, zl_31, zl_32, zl_33, zl_44, zl_48, zl_50, zl_57, zl_59, zl_60, zl_61, zl_62, zl_63, zl_64, zl_68, zl_97, zl_99, zl_100, zl_104, zl_108, zl_114, zl_120, zl_122, zl_126, zl_132, zl_180, zl_181, zl_186, zl_255, zl_900, zl_930, zl_1000, zl_1000000, nI_add, pk_mul, zs_sub, zs_lt, zs_le, zs_eq, zs_inb, zs_cl, zm_eq, zm_eq2, zm_lt, zm_le, mz_lt, mz_le, mm_eq, zs_bit, zs_or1, zs_div, zs_rem, ck_pos, if_pos, if_neg, true_or, or_true, true_and, and_true, false_or, or_false, false_and, and_false, not_true, not_false_iff, if_true, if_false, eq_self, Bool.false_eq_true, cl2_id, Bool.not_true, Bool.not_false]
theorem sid_0 (h : LM m N b a n κ) (hb : isB b a n κ 27 = false) (hb2 : isB b a n κ 28 = false) : fX11_side m = some (nI 1, wrM m 1 a) := by
  unfold fX11_side
  simp (disch := omega) only [h.2.2.2, tks_0 h (i := 27) (by decide) hb, mus_0 h (i := 28) (by decide) hb2, cl2_so, cl1_so, ck_tr, zl_0, zl_1, zl_2, zl_3, zl_4, zl_5, zl_6, zl_7, zl_8, zl_9, zl_10, zl_11, zl_12, zl_15, zl_16, zl_20, zl_24, zl_25, zl_30, zl_31, zl_32, zl_33, zl_44, zl_48, zl_50, zl_57, zl_59, zl_60, zl_61, zl_62, zl_63, zl_64, zl_68, zl_97, zl_99, zl_100, zl_104, zl_108, zl_114, zl_120, zl_122, zl_126, zl_132, zl_180, zl_181, zl_186, zl_255, zl_900, zl_930, zl_1000, zl_1000000, nI_add, pk_mul, zs_sub, zs_lt, zs_le, zs_eq, zs_inb, zs_cl, zm_eq, zm_eq2, zm_lt, zm_le, mz_lt, mz_le, mm_eq, zs_bit, zs_or1, zs_div, zs_rem, ck_pos, if_pos, if_neg, true_or, or_true, true_and, and_true, false_or, or_false, false_and, and_false, not_true, not_false_iff, if_true, if_false, eq_self, Bool.false_eq_true, cl2_id, Bool.not_true, Bool.not_false]
theorem sid_d (h : m.1 138 13 = nI 1) : fX11_side m = some (nI 0, m) := by
  unfold fX11_side
  simp (disch := omega) only [h, cl2_so, cl1_so, ck_tr, zl_0, zl_1, zl_2, zl_3, zl_4, zl_5, zl_6, zl_7, zl_8, zl_9, zl_10, zl_11, zl_12, zl_15, zl_16, zl_20, zl_24, zl_25, zl_30, zl_31, zl_32, zl_33, zl_44, zl_48, zl_50, zl_57, zl_59, zl_60, zl_61, zl_62, zl_63, zl_64, zl_68, zl_97, zl_99, zl_100, zl_104, zl_108, zl_114, zl_120, zl_122, zl_126, zl_132, zl_180, zl_181, zl_186, zl_255, zl_900, zl_930, zl_1000, zl_1000000, nI_add, pk_mul, zs_sub, zs_lt, zs_le, zs_eq, zs_inb, zs_cl, zm_eq, zm_eq2, zm_lt, zm_le, mz_lt, mz_le, mm_eq, zs_bit, zs_or1, zs_div, zs_rem, ck_pos, if_pos, if_neg, true_or, or_true, true_and, and_true, false_or, or_false, false_and, and_false, not_true, not_false_iff, if_true, if_false, eq_self, Bool.false_eq_true, cl2_id, Bool.not_true, Bool.not_false]
theorem kw20 (hT : Tk N b (a + n) a' n' κ') (hk : κ = 1) {fr : Nat} (hfr : fr + 8 ≤ 186) : ∀ j q f (m : Me), LM m N b a n κ → (∀ k, k < q → m.1 142 (fr + k) = nI (b (a + k) - 97)) → q + j = n → j < f → ∃ m', fX11_keepWord_20 f (nI fr) (nI n) (nI q) m = some (nI n, m') ∧ LM m' N b a' n' κ' ∧ (∀ k, k < n → m'.1 142 (fr + k) = nI (b (a + k) - 97)) ∧ (∀ x j, ¬ (x = 142 ∧ fr ≤ j ∧ j < fr + n) → x ≠ 140 → ¬ (x = 138 ∧ 4 ≤ j ∧ j ≤ 8) → m'.1 x j = m.1 x j) ∧ m'.2 = m.2 := by
  intro j
  induction j with
  | zero =>
    intro q f m h hl hq hf
    obtain ⟨f, rfl⟩ : ∃ n', f = n' + 1 := ⟨f - 1, by omega⟩
    obtain rfl : q = n := by omega
    have hbd := h.bd
    obtain ⟨m', e, g1, g2⟩ := h.nx hT
    refine ⟨m', ?_, g1, fun k hk => (g2.1 142 _ (by omega) (by omega)).trans (hl k hk), fun x j _ z2 z3 => g2.1 x j z2 z3, g2.2⟩
    rw [fX11_keepWord_20]
    simp (disch := omega) only [e, cl2_so, cl1_so, ck_tr, zl_0, zl_1, zl_2, zl_3, zl_4, zl_5, zl_6, zl_7, zl_8, zl_9, zl_10, zl_11, zl_12, zl_15, zl_16, zl_20, zl_24, zl_25, zl_30, zl_31, zl_32, zl_33, zl_44, zl_48, zl_50, zl_57, zl_59, zl_60, zl_61, zl_62, zl_63, zl_64, zl_68, zl_97, zl_99, zl_100, zl_104, zl_108, zl_114, zl_120, zl_122, zl_126, zl_132, zl_180, zl_181, zl_186, zl_255, zl_900, zl_930, zl_1000, zl_1000000, nI_add, pk_mul, zs_sub, zs_lt, zs_le, zs_eq, zs_inb, zs_cl, zm_eq, zm_eq2, zm_lt, zm_le, mz_lt, mz_le, mm_eq, zs_bit, zs_or1, zs_div, zs_rem, ck_pos, if_pos, if_neg, true_or, or_true, true_and, and_true, false_or, or_false, false_and, and_false, not_true, not_false_iff, if_true, if_false, eq_self, Bool.false_eq_true, cl2_id, Bool.not_true, Bool.not_false]
  | succ j ih =>
    intro q f m h hl hq hf
    obtain ⟨f, rfl⟩ : ∃ n', f = n' + 1 := ⟨f - 1, by omega⟩
    obtain ⟨hX, ⟨t4, t5, t6, t8, t7⟩, ⟨o1, o2, o3, o4, o5, o6⟩, h13⟩ := id h
    obtain ⟨h8, hlt⟩ := t8 hk
    have hN := hX.1
    have hn8 := (o5 hk).1
    obtain ⟨d1, d2⟩ := (o5 hk).2 q (by omega)
    have hx := hlt q (by omega)
    have h' : LM (setI m 142 (fr + q) (nI (b (a + q) - 97))) N b a n κ := h.tb (fun x j z => sI_na (by omega))
    obtain ⟨m', i1, i2, i3, i4, i5⟩ := ih (q + 1) f _ h' (fun k hk => by
      by_cases z : k = q
      · subst z
        exact sI_eq _ _ _ _
      · rw [sI_nj (by omega)]
        exact hl k (by omega)) (by omega) (by omega)
    refine ⟨m', ?_, i2, i3, fun x j z1 z2 z3 => (i4 x j z1 z2 z3).trans ((sI_1 _ _ _ _ _ _).trans (if_neg (by omega))), i5⟩
    rw [fX11_keepWord_20]
    simp (disch := omega) only [hx, cl2_so, cl1_so, ck_tr, zl_0, zl_1, zl_2, zl_3, zl_4, zl_5, zl_6, zl_7, zl_8, zl_9, zl_10, zl_11, zl_12, zl_15, zl_16, zl_20, zl_24, zl_25, zl_30, zl_31, zl_32, zl_33, zl_44, zl_48, zl_50, zl_57, zl_59, zl_60, zl_61, zl_62, zl_63, zl_64, zl_68, zl_97, zl_99, zl_100, zl_104, zl_108, zl_114, zl_120, zl_122, zl_126, zl_132, zl_180, zl_181, zl_186, zl_255, zl_900, zl_930, zl_1000, zl_1000000, nI_add, pk_mul, zs_sub, zs_lt, zs_le, zs_eq, zs_inb, zs_cl, zm_eq, zm_eq2, zm_lt, zm_le, mz_lt, mz_le, mm_eq, zs_bit, zs_or1, zs_div, zs_rem, ck_pos, if_pos, if_neg, true_or, or_true, true_and, and_true, false_or, or_false, false_and, and_false, not_true, not_false_iff, if_true, if_false, eq_self, Bool.false_eq_true, cl2_id, Bool.not_true, Bool.not_false]
    exact i1
theorem kw_1 (h : LM m N b a n κ) (hT : Tk N b (a + n) a' n' κ') (hk : κ = 1) {fr : Nat} (hfr : fr + 8 ≤ 186) : ∃ m', fX11_keepWord (nI fr) m = some (nI n, m') ∧ LM m' N b a' n' κ' ∧ (∀ k, k < n → m'.1 142 (fr + k) = nI (b (a + k) - 97)) ∧ (∀ x j, ¬ (x = 142 ∧ fr ≤ j ∧ j < fr + n) → x ≠ 140 → ¬ (x = 138 ∧ 4 ≤ j ∧ j ≤ 8) → m'.1 x j = m.1 x j) ∧ m'.2 = m.2 := by
  have hn8 := (h.2.2.1.2.2.2.2.1 hk).1
  obtain ⟨m', i1, i2⟩ := kw20 hT hk hfr n 0 FU m h (fun k hk => absurd hk (by omega)) (by omega) (FU_pos (by omega))
  refine ⟨m', ?_, i2⟩
  unfold fX11_keepWord
  have h8 := (h.2.1.2.2.2.1 hk).1
  simp (disch := omega) only [mw_1 h hk, h.2.2.2, h8, cl2_so, cl1_so, ck_tr, zl_0, zl_1, zl_2, zl_3, zl_4, zl_5, zl_6, zl_7, zl_8, zl_9, zl_10, zl_11, zl_12, zl_15, zl_16, zl_20, zl_24, zl_25, zl_30, zl_31, zl_32, zl_33, zl_44, zl_48, zl_50, zl_57, zl_59, zl_60, zl_61, zl_62, zl_63, zl_64, zl_68, zl_97, zl_99, zl_100, zl_104, zl_108, zl_114, zl_120, zl_122, zl_126, zl_132, zl_180, zl_181, zl_186, zl_255, zl_900, zl_930, zl_1000, zl_1000000, nI_add, pk_mul, zs_sub, zs_lt, zs_le, zs_eq, zs_inb, zs_cl, zm_eq, zm_eq2, zm_lt, zm_le, mz_lt, mz_le, mm_eq, zs_bit, zs_or1, zs_div, zs_rem, ck_pos, if_pos, if_neg, true_or, or_true, true_and, and_true, false_or, or_false, false_and, and_false, not_true, not_false_iff, if_true, if_false, eq_self, Bool.false_eq_true, cl2_id, Bool.not_true, Bool.not_false]
  exact i1
theorem kw_0 (h : LM m N b a n κ) (hk : κ ≠ 1) (x : Int32) : fX11_keepWord x m = some (nI 0, wrM m 1 a) := by
  unfold fX11_keepWord
  simp (disch := omega) only [mw_0 h hk, wr_13, cl2_so, cl1_so, ck_tr, zl_0, zl_1, zl_2, zl_3, zl_4, zl_5, zl_6, zl_7, zl_8, zl_9, zl_10, zl_11, zl_12, zl_15, zl_16, zl_20, zl_24, zl_25, zl_30, zl_31, zl_32, zl_33, zl_44, zl_48, zl_50, zl_57, zl_59, zl_60, zl_61, zl_62, zl_63, zl_64, zl_68, zl_97, zl_99, zl_100, zl_104, zl_108, zl_114, zl_120, zl_122, zl_126, zl_132, zl_180, zl_181, zl_186, zl_255, zl_900, zl_930, zl_1000, zl_1000000, nI_add, pk_mul, zs_sub, zs_lt, zs_le, zs_eq, zs_inb, zs_cl, zm_eq, zm_eq2, zm_lt, zm_le, mz_lt, mz_le, mm_eq, zs_bit, zs_or1, zs_div, zs_rem, ck_pos, if_pos, if_neg, true_or, or_true, true_and, and_true, false_or, or_false, false_and, and_false, not_true, not_false_iff, if_true, if_false, eq_self, Bool.false_eq_true, cl2_id, Bool.not_true, Bool.not_false]
theorem kw_d (h : m.1 138 13 = nI 1) (x : Int32) : fX11_keepWord x m = some (nI 0, m) := by
  unfold fX11_keepWord
  simp (disch := omega) only [mw_d h, h, cl2_so, cl1_so, ck_tr, zl_0, zl_1, zl_2, zl_3, zl_4, zl_5, zl_6, zl_7, zl_8, zl_9, zl_10, zl_11, zl_12, zl_15, zl_16, zl_20, zl_24, zl_25, zl_30, zl_31, zl_32, zl_33, zl_44, zl_48, zl_50, zl_57, zl_59, zl_60, zl_61, zl_62, zl_63, zl_64, zl_68, zl_97, zl_99, zl_100, zl_104, zl_108, zl_114, zl_120, zl_122, zl_126, zl_132, zl_180, zl_181, zl_186, zl_255, zl_900, zl_930, zl_1000, zl_1000000, nI_add, pk_mul, zs_sub, zs_lt, zs_le, zs_eq, zs_inb, zs_cl, zm_eq, zm_eq2, zm_lt, zm_le, mz_lt, mz_le, mm_eq, zs_bit, zs_or1, zs_div, zs_rem, ck_pos, if_pos, if_neg, true_or, or_true, true_and, and_true, false_or, or_false, false_and, and_false, not_true, not_false_iff, if_true, if_false, eq_self, Bool.false_eq_true, cl2_id, Bool.not_true, Bool.not_false]
end UNITM
