/-! smear, beats, calm, calmAt -/
def smr (a b : List Nat) : Nat := (if a.length < b.length then b.length - a.length else a.length - b.length) + z_ct (fun i => decide (a.getD i 0 ≠ b.getD i 0)) 0 (if b.length < a.length then b.length else a.length)
theorem smr_le {a b : List Nat} (ha : a.length ≤ 30) (hb : b.length ≤ 30) : smr a b ≤ 30 := by
  unfold smr
  have h := z_ct_le (fun i => decide (a.getD i 0 ≠ b.getD i 0)) (if b.length < a.length then b.length else a.length) 0
  split <;> split at h <;> split <;> omega
def sm (r s : Nat → Nat) (side v w : Nat) : Nat := smr (zT r s side v (s 60)) (zT r s side w (s 60))
section C13
variable {m : Me} {H : Bool} {t : Nat} {r s : Nat → Nat} {x1 x2 x3 x4 : Int32}
theorem sm_le (hO : KO r s) {side v w : Nat} (hv : v ≤ z_mo r) (hw : w ≤ z_mo r) : sm r s side v w ≤ 30 := smr_le (zT_30 hO _ hv) (zT_30 hO _ hw)
theorem cu29 {a0 a1 : Nat} {A B : List Nat} (h0 : RLt m a0 A) (h1 : RLt m a1 B) (hA : A.length ≤ 30) (hB : B.length ≤ 30) (lA : ∀ k, k < A.length → A.getD k 0 < 1000) (lB : ∀ k, k < B.length → B.getD k 0 < 1000) {N : Nat} (hN : N ≤ A.length ∧ N ≤ B.length) : ∀ j k n q, k + j = N → j < n → fX7_countUnlike_29 n a0 a1 (nI N) (nI q) (nI k) m = some (nI (q + z_ct (fun i => decide (A.getD i 0 ≠ B.getD i 0)) k j), m) := by
  intro j
  induction j with
  | zero =>
    intro k n q hk hn
    obtain ⟨n, rfl⟩ : ∃ n', n = n' + 1 := ⟨n - 1, by omega⟩
    rw [fX7_countUnlike_29, z_ct]
    simp (disch := omega) only [Nat.add_zero, cl2_so, cl1_so, ck_tr, zl_0, zl_1, zl_2, zl_3, zl_4, zl_5, zl_6, zl_7, zl_8, zl_9, zl_10, zl_11, zl_12, zl_15, zl_16, zl_20, zl_24, zl_25, zl_30, zl_31, zl_32, zl_33, zl_44, zl_48, zl_50, zl_57, zl_59, zl_60, zl_61, zl_62, zl_63, zl_64, zl_68, zl_97, zl_99, zl_100, zl_104, zl_108, zl_114, zl_120, zl_122, zl_126, zl_132, zl_180, zl_181, zl_186, zl_255, zl_900, zl_930, zl_1000, zl_1000000, nI_add, pk_mul, zs_sub, zs_lt, zs_le, zs_eq, zs_inb, zs_cl, zm_eq, zm_eq2, zm_lt, zm_le, mz_lt, mz_le, mm_eq, zs_bit, zs_or1, zs_div, zs_rem, ck_pos, if_pos, if_neg, true_or, or_true, true_and, and_true, false_or, or_false, false_and, and_false, not_true, not_false_iff, if_true, if_false, eq_self, Bool.false_eq_true, cl2_id, Bool.not_true, Bool.not_false]
  | succ j ih =>
    intro k n q hk hn
    obtain ⟨n, rfl⟩ : ∃ n', n = n' + 1 := ⟨n - 1, by omega⟩
    rw [fX7_countUnlike_29, z_ct]
    have e0 := h0.2 k (by omega)
    have e1 := h1.2 k (by omega)
    have b0 := lA k (by omega)
    have b1 := lB k (by omega)
    unfold fX7_countUnlike_55
    by_cases hg : A.getD k 0 = B.getD k 0
    · rw [decide_eq_false (fun q => q hg)]
      simp (disch := omega) only [e0, e1, hg, cl2_so, cl1_so, ck_tr, zl_0, zl_1, zl_2, zl_3, zl_4, zl_5, zl_6, zl_7, zl_8, zl_9, zl_10, zl_11, zl_12, zl_15, zl_16, zl_20, zl_24, zl_25, zl_30, zl_31, zl_32, zl_33, zl_44, zl_48, zl_50, zl_57, zl_59, zl_60, zl_61, zl_62, zl_63, zl_64, zl_68, zl_97, zl_99, zl_100, zl_104, zl_108, zl_114, zl_120, zl_122, zl_126, zl_132, zl_180, zl_181, zl_186, zl_255, zl_900, zl_930, zl_1000, zl_1000000, nI_add, pk_mul, zs_sub, zs_lt, zs_le, zs_eq, zs_inb, zs_cl, zm_eq, zm_eq2, zm_lt, zm_le, mz_lt, mz_le, mm_eq, zs_bit, zs_or1, zs_div, zs_rem, ck_pos, if_pos, if_neg, true_or, or_true, true_and, and_true, false_or, or_false, false_and, and_false, not_true, not_false_iff, if_true, if_false, eq_self, Bool.false_eq_true, cl2_id, Bool.not_true, Bool.not_false]
      rw [ih (k + 1) n q (by omega) (by omega)]
      congr 3
      omega
    · rw [decide_eq_true hg]
      simp (disch := omega) only [e0, e1, hg, cl2_so, cl1_so, ck_tr, zl_0, zl_1, zl_2, zl_3, zl_4, zl_5, zl_6, zl_7, zl_8, zl_9, zl_10, zl_11, zl_12, zl_15, zl_16, zl_20, zl_24, zl_25, zl_30, zl_31, zl_32, zl_33, zl_44, zl_48, zl_50, zl_57, zl_59, zl_60, zl_61, zl_62, zl_63, zl_64, zl_68, zl_97, zl_99, zl_100, zl_104, zl_108, zl_114, zl_120, zl_122, zl_126, zl_132, zl_180, zl_181, zl_186, zl_255, zl_900, zl_930, zl_1000, zl_1000000, nI_add, pk_mul, zs_sub, zs_lt, zs_le, zs_eq, zs_inb, zs_cl, zm_eq, zm_eq2, zm_lt, zm_le, mz_lt, mz_le, mm_eq, zs_bit, zs_or1, zs_div, zs_rem, ck_pos, if_pos, if_neg, true_or, or_true, true_and, and_true, false_or, or_false, false_and, and_false, not_true, not_false_iff, if_true, if_false, eq_self, Bool.false_eq_true, cl2_id, Bool.not_true, Bool.not_false]
      rw [ih (k + 1) n (q + 1) (by omega) (by omega)]
      congr 3
      omega
theorem KC.smear (h : KC m t r s) (hO : KO r s) {side v w : Nat} (hs : side ≤ 1) (hv : v ≤ z_mo r) (hw : w ≤ z_mo r) : ∃ m', fX10_smearBetween (nI side) (nI v) (nI w) m = some (nI (sm r s side v w), m') ∧ Ak sC m m' ∧ KC m' t r s ∧ ∀ b k, (b < 88 ∨ 93 < b) → m'.1 b k = m.1 b k := by
  obtain ⟨m1, e1, a1, b1, c1, -, d1, -⟩ := h.look hO (a := 88) (br := s 60) (side := side) (op := v) (by decide) hs hv hO.s60
  obtain ⟨m2, e2, a2, b2, c2, -, d2, -⟩ := b1.look hO (a := 91) (br := s 60) (side := side) (op := w) (by decide) hs hw hO.s60
  have c1' : RLt m2 88 (zT r s side v (s 60)) := ⟨(d2 88 2 (by omega) (by omega) (by omega)).trans c1.1, fun k hk => (d2 90 k (by omega) (by omega) (by omega)).trans (c1.2 k hk)⟩
  refine ⟨m2, ?_, a1.tr a2, b2, fun b k hb => (d2 b k (by omega) (by omega) (by omega)).trans (d1 b k (by omega) (by omega) (by omega))⟩
  have f1 := h.2.2.2.1.2.1
  have f2 := b1.2.2.2.1.2.1
  have la := zT_30 hO (side := side) (s 60) hv
  have lb := zT_30 hO (side := side) (s 60) hw
  unfold fX10_smearBetween
  rw [h.1, f1, e1, cl1_so, b1.1, f2, e2, cl1_so, cl2_id]
  unfold fX7_countUnlike
  rw [c1'.1, c2.1]
  unfold sm smr
  by_cases q1 : (zT r s side w (s 60)).length < (zT r s side v (s 60)).length
  · have e := cu29 c1' c2 la lb (zT_k hO _ hs hv) (zT_k hO _ hs hw) (N := (zT r s side w (s 60)).length) (by omega) (zT r s side w (s 60)).length 0 FU ((zT r s side v (s 60)).length - (zT r s side w (s 60)).length) (by omega) (FU_pos (by omega))
    simp (disch := omega) only [cl2_so, cl1_so, ck_tr, zl_0, zl_1, zl_2, zl_3, zl_4, zl_5, zl_6, zl_7, zl_8, zl_9, zl_10, zl_11, zl_12, zl_15, zl_16, zl_20, zl_24, zl_25, zl_30, zl_31, zl_32, zl_33, zl_44, zl_48, zl_50, zl_57, zl_59, zl_60, zl_61, zl_62, zl_63, zl_64, zl_68, zl_97, zl_99, zl_100, zl_104, zl_108, zl_114, zl_120, zl_122, zl_126, zl_132, zl_180, zl_181, zl_186, zl_255, zl_900, zl_930, zl_1000, zl_1000000, nI_add, pk_mul, zs_sub, zs_lt, zs_le, zs_eq, zs_inb, zs_cl, zm_eq, zm_eq2, zm_lt, zm_le, mz_lt, mz_le, mm_eq, zs_bit, zs_or1, zs_div, zs_rem, ck_pos, if_pos, if_neg, true_or, or_true, true_and, and_true, false_or, or_false, false_and, and_false, not_true, not_false_iff, if_true, if_false, eq_self, Bool.false_eq_true, cl2_id, Bool.not_true, Bool.not_false]
    exact e
  · have e := cu29 c1' c2 la lb (zT_k hO _ hs hv) (zT_k hO _ hs hw) (N := (zT r s side v (s 60)).length) (by omega) (zT r s side v (s 60)).length 0 FU ((zT r s side w (s 60)).length - (zT r s side v (s 60)).length) (by omega) (FU_pos (by omega))
    by_cases q2 : (zT r s side v (s 60)).length < (zT r s side w (s 60)).length
    · simp (disch := omega) only [cl2_so, cl1_so, ck_tr, zl_0, zl_1, zl_2, zl_3, zl_4, zl_5, zl_6, zl_7, zl_8, zl_9, zl_10, zl_11, zl_12, zl_15, zl_16, zl_20, zl_24, zl_25, zl_30, zl_31, zl_32, zl_33, zl_44, zl_48, zl_50, zl_57, zl_59, zl_60, zl_61, zl_62, zl_63, zl_64, zl_68, zl_97, zl_99, zl_100, zl_104, zl_108, zl_114, zl_120, zl_122, zl_126, zl_132, zl_180, zl_181, zl_186, zl_255, zl_900, zl_930, zl_1000, zl_1000000, nI_add, pk_mul, zs_sub, zs_lt, zs_le, zs_eq, zs_inb, zs_cl, zm_eq, zm_eq2, zm_lt, zm_le, mz_lt, mz_le, mm_eq, zs_bit, zs_or1, zs_div, zs_rem, ck_pos, if_pos, if_neg, true_or, or_true, true_and, and_true, false_or, or_false, false_and, and_false, not_true, not_false_iff, if_true, if_false, eq_self, Bool.false_eq_true, cl2_id, Bool.not_true, Bool.not_false]
      exact e
    · have q3 : (zT r s side w (s 60)).length = (zT r s side v (s 60)).length := by omega
      rw [q3, Nat.sub_self] at e
      simp (disch := omega) only [q3, Nat.sub_self, cl2_so, cl1_so, ck_tr, zl_0, zl_1, zl_2, zl_3, zl_4, zl_5, zl_6, zl_7, zl_8, zl_9, zl_10, zl_11, zl_12, zl_15, zl_16, zl_20, zl_24, zl_25, zl_30, zl_31, zl_32, zl_33, zl_44, zl_48, zl_50, zl_57, zl_59, zl_60, zl_61, zl_62, zl_63, zl_64, zl_68, zl_97, zl_99, zl_100, zl_104, zl_108, zl_114, zl_120, zl_122, zl_126, zl_132, zl_180, zl_181, zl_186, zl_255, zl_900, zl_930, zl_1000, zl_1000000, nI_add, pk_mul, zs_sub, zs_lt, zs_le, zs_eq, zs_inb, zs_cl, zm_eq, zm_eq2, zm_lt, zm_le, mz_lt, mz_le, mm_eq, zs_bit, zs_or1, zs_div, zs_rem, ck_pos, if_pos, if_neg, true_or, or_true, true_and, and_true, false_or, or_false, false_and, and_false, not_true, not_false_iff, if_true, if_false, eq_self, Bool.false_eq_true, cl2_id, Bool.not_true, Bool.not_false]
      exact e
theorem so71 (h : KM m r s) (hO : KO r s) {side : Nat} (hs : side ≤ 1) {L A : List Nat} (hL : L.length ≤ 30) (hml : ML146 m L) (hlt : ∀ c ∈ L, c < 30) (hA : A.length ≤ 30) (hA2 : ∀ k, k < A.length → m.1 148 k = nI (A.getD k 0)) (lA : ∀ k, k < A.length → A.getD k 0 < 1000) {N : Nat} (hN : N = if L.length < A.length then L.length else A.length) : ∀ j k n q, k + j = N → j < n → fX11_smearOf_71 n (nI side) (nI A.length) (nI L.length) (nI q) (nI k) m = some (nI (q + z_ct (fun i => decide (A.getD i 0 ≠ (L.map (fun c => s (30 * side + c))).getD i 0)) k j), m) := by
  have hN2 : N ≤ L.length ∧ N ≤ A.length ∧ (N = L.length ∨ N = A.length) := by
    subst hN
    split <;> omega
  intro j
  induction j with
  | zero =>
    intro k n q hk hn
    obtain ⟨n, rfl⟩ : ∃ n', n = n' + 1 := ⟨n - 1, by omega⟩
    rw [fX11_smearOf_71, z_ct]
    unfold fX11_smearOf_118
    rcases hN2.2.2 with q1 | q1
    · by_cases q2 : A.length ≤ k
      · simp (disch := omega) only [Nat.add_zero, cl2_so, cl1_so, ck_tr, zl_0, zl_1, zl_2, zl_3, zl_4, zl_5, zl_6, zl_7, zl_8, zl_9, zl_10, zl_11, zl_12, zl_15, zl_16, zl_20, zl_24, zl_25, zl_30, zl_31, zl_32, zl_33, zl_44, zl_48, zl_50, zl_57, zl_59, zl_60, zl_61, zl_62, zl_63, zl_64, zl_68, zl_97, zl_99, zl_100, zl_104, zl_108, zl_114, zl_120, zl_122, zl_126, zl_132, zl_180, zl_181, zl_186, zl_255, zl_900, zl_930, zl_1000, zl_1000000, nI_add, pk_mul, zs_sub, zs_lt, zs_le, zs_eq, zs_inb, zs_cl, zm_eq, zm_eq2, zm_lt, zm_le, mz_lt, mz_le, mm_eq, zs_bit, zs_or1, zs_div, zs_rem, ck_pos, if_pos, if_neg, true_or, or_true, true_and, and_true, false_or, or_false, false_and, and_false, not_true, not_false_iff, if_true, if_false, eq_self, Bool.false_eq_true, cl2_id, Bool.not_true, Bool.not_false]
      · simp (disch := omega) only [Nat.add_zero, cl2_so, cl1_so, ck_tr, zl_0, zl_1, zl_2, zl_3, zl_4, zl_5, zl_6, zl_7, zl_8, zl_9, zl_10, zl_11, zl_12, zl_15, zl_16, zl_20, zl_24, zl_25, zl_30, zl_31, zl_32, zl_33, zl_44, zl_48, zl_50, zl_57, zl_59, zl_60, zl_61, zl_62, zl_63, zl_64, zl_68, zl_97, zl_99, zl_100, zl_104, zl_108, zl_114, zl_120, zl_122, zl_126, zl_132, zl_180, zl_181, zl_186, zl_255, zl_900, zl_930, zl_1000, zl_1000000, nI_add, pk_mul, zs_sub, zs_lt, zs_le, zs_eq, zs_inb, zs_cl, zm_eq, zm_eq2, zm_lt, zm_le, mz_lt, mz_le, mm_eq, zs_bit, zs_or1, zs_div, zs_rem, ck_pos, if_pos, if_neg, true_or, or_true, true_and, and_true, false_or, or_false, false_and, and_false, not_true, not_false_iff, if_true, if_false, eq_self, Bool.false_eq_true, cl2_id, Bool.not_true, Bool.not_false]
    · simp (disch := omega) only [Nat.add_zero, cl2_so, cl1_so, ck_tr, zl_0, zl_1, zl_2, zl_3, zl_4, zl_5, zl_6, zl_7, zl_8, zl_9, zl_10, zl_11, zl_12, zl_15, zl_16, zl_20, zl_24, zl_25, zl_30, zl_31, zl_32, zl_33, zl_44, zl_48, zl_50, zl_57, zl_59, zl_60, zl_61, zl_62, zl_63, zl_64, zl_68, zl_97, zl_99, zl_100, zl_104, zl_108, zl_114, zl_120, zl_122, zl_126, zl_132, zl_180, zl_181, zl_186, zl_255, zl_900, zl_930, zl_1000, zl_1000000, nI_add, pk_mul, zs_sub, zs_lt, zs_le, zs_eq, zs_inb, zs_cl, zm_eq, zm_eq2, zm_lt, zm_le, mz_lt, mz_le, mm_eq, zs_bit, zs_or1, zs_div, zs_rem, ck_pos, if_pos, if_neg, true_or, or_true, true_and, and_true, false_or, or_false, false_and, and_false, not_true, not_false_iff, if_true, if_false, eq_self, Bool.false_eq_true, cl2_id, Bool.not_true, Bool.not_false]
  | succ j ih =>
    intro k n q hk hn
    obtain ⟨n, rfl⟩ : ∃ n', n = n' + 1 := ⟨n - 1, by omega⟩
    have e5 := fX11_letterAt_e h.2.2 hml hL hlt hs (k := k) (by omega)
    have b5 : (L.map (fun c => s (30 * side + c))).getD k 0 ≤ 25 := by
      rw [getD_map0 (by omega)]
      have := hlt _ (getD_mem0 (show k < L.length by omega))
      exact hO.2.1 _ (by omega)
    have e6 := hA2 k (by omega)
    have b6 := lA k (by omega)
    rw [fX11_smearOf_71, z_ct]
    unfold fX11_smearOf_109
    by_cases hg : A.getD k 0 = (L.map (fun c => s (30 * side + c))).getD k 0
    · rw [decide_eq_false (fun q => q hg)]
      simp (disch := omega) only [e5, e6, hg, cl2_so, cl1_so, ck_tr, zl_0, zl_1, zl_2, zl_3, zl_4, zl_5, zl_6, zl_7, zl_8, zl_9, zl_10, zl_11, zl_12, zl_15, zl_16, zl_20, zl_24, zl_25, zl_30, zl_31, zl_32, zl_33, zl_44, zl_48, zl_50, zl_57, zl_59, zl_60, zl_61, zl_62, zl_63, zl_64, zl_68, zl_97, zl_99, zl_100, zl_104, zl_108, zl_114, zl_120, zl_122, zl_126, zl_132, zl_180, zl_181, zl_186, zl_255, zl_900, zl_930, zl_1000, zl_1000000, nI_add, pk_mul, zs_sub, zs_lt, zs_le, zs_eq, zs_inb, zs_cl, zm_eq, zm_eq2, zm_lt, zm_le, mz_lt, mz_le, mm_eq, zs_bit, zs_or1, zs_div, zs_rem, ck_pos, if_pos, if_neg, true_or, or_true, true_and, and_true, false_or, or_false, false_and, and_false, not_true, not_false_iff, if_true, if_false, eq_self, Bool.false_eq_true, cl2_id, Bool.not_true, Bool.not_false]
      rw [ih (k + 1) n (q + 0) (by omega) (by omega)]
      congr 3
      omega
    · rw [decide_eq_true hg]
      simp (disch := omega) only [e5, e6, hg, cl2_so, cl1_so, ck_tr, zl_0, zl_1, zl_2, zl_3, zl_4, zl_5, zl_6, zl_7, zl_8, zl_9, zl_10, zl_11, zl_12, zl_15, zl_16, zl_20, zl_24, zl_25, zl_30, zl_31, zl_32, zl_33, zl_44, zl_48, zl_50, zl_57, zl_59, zl_60, zl_61, zl_62, zl_63, zl_64, zl_68, zl_97, zl_99, zl_100, zl_104, zl_108, zl_114, zl_120, zl_122, zl_126, zl_132, zl_180, zl_181, zl_186, zl_255, zl_900, zl_930, zl_1000, zl_1000000, nI_add, pk_mul, zs_sub, zs_lt, zs_le, zs_eq, zs_inb, zs_cl, zm_eq, zm_eq2, zm_lt, zm_le, mz_lt, mz_le, mm_eq, zs_bit, zs_or1, zs_div, zs_rem, ck_pos, if_pos, if_neg, true_or, or_true, true_and, and_true, false_or, or_false, false_and, and_false, not_true, not_false_iff, if_true, if_false, eq_self, Bool.false_eq_true, cl2_id, Bool.not_true, Bool.not_false]
      rw [ih (k + 1) n (q + 1) (by omega) (by omega)]
      congr 3
      omega
theorem so11 (hO : KO r s) {side v w : Nat} (hs : side ≤ 1) (hv : v ≤ z_mo r) (hw : w ≤ z_mo r) : ∀ j k n (m : Me), KM m r s → ML146 m (z_show r side v (s 60)) → (∀ i, i < k → m.1 148 i = nI ((zT r s side v (s 60)).getD i 0)) → k + j = (z_show r side v (s 60)).length → j < n → ∃ m', fX11_smearOf_11 n (nI side) (nI w) (nI (z_show r side v (s 60)).length) (nI k) m = some (nI (sm r s side v w), m') ∧ Ak sN m m' ∧ KM m' r s ∧ ∀ b k, (b < 147 ∨ 148 < b) → m'.1 b k = m.1 b k := by
  have la := z_show_len hO.1.1 (side := side) (br := s 60) hv
  have lb := z_show_len hO.1.1 (side := side) (br := s 60) hw
  intro j
  induction j with
  | zero =>
    intro k n m h hml h147 hk hn
    obtain ⟨n, rfl⟩ : ∃ n', n = n' + 1 := ⟨n - 1, by omega⟩
    have hA := ak_146 (m := m) (z_show r side w (s 60))
    have hK := h.ag hA.agN
    have hlen := zT_len (r := r) (s := s) side v (s 60)
    refine ⟨_, ?_, hA, hK, fun b k hb => wl_na (by omega)⟩
    have e := so71 hK hO hs lb (ML_wl _) (z_show_lt hO.1.1 hw) (A := zT r s side v (s 60)) (by omega) (fun i hi => (wl_na (by decide)).trans (h147 i (by omega))) (zT_k hO _ hs hv) rfl
    rw [fX11_smearOf_11]
    unfold fX11_smearOf_66 sm smr
    rw [zT_len side w, hlen]
    rw [hlen] at e
    by_cases q1 : (z_show r side w (s 60)).length ≤ (z_show r side v (s 60)).length
    · have e' := e _ 0 FU ((z_show r side v (s 60)).length - (z_show r side w (s 60)).length) (Nat.zero_add _) (FU_pos (by split <;> omega))
      rw [if_neg (show ¬ (z_show r side v (s 60)).length < (z_show r side w (s 60)).length by omega)]
      simp (disch := omega) only [h.layNow hO hs hw, cl2_so, cl1_so, ck_tr, zl_0, zl_1, zl_2, zl_3, zl_4, zl_5, zl_6, zl_7, zl_8, zl_9, zl_10, zl_11, zl_12, zl_15, zl_16, zl_20, zl_24, zl_25, zl_30, zl_31, zl_32, zl_33, zl_44, zl_48, zl_50, zl_57, zl_59, zl_60, zl_61, zl_62, zl_63, zl_64, zl_68, zl_97, zl_99, zl_100, zl_104, zl_108, zl_114, zl_120, zl_122, zl_126, zl_132, zl_180, zl_181, zl_186, zl_255, zl_900, zl_930, zl_1000, zl_1000000, nI_add, pk_mul, zs_sub, zs_lt, zs_le, zs_eq, zs_inb, zs_cl, zm_eq, zm_eq2, zm_lt, zm_le, mz_lt, mz_le, mm_eq, zs_bit, zs_or1, zs_div, zs_rem, ck_pos, if_pos, if_neg, true_or, or_true, true_and, and_true, false_or, or_false, false_and, and_false, not_true, not_false_iff, if_true, if_false, eq_self, Bool.false_eq_true, cl2_id, Bool.not_true, Bool.not_false]
      exact e'
    · have e' := e _ 0 FU ((z_show r side w (s 60)).length - (z_show r side v (s 60)).length) (Nat.zero_add _) (FU_pos (by split <;> omega))
      rw [if_pos (show (z_show r side v (s 60)).length < (z_show r side w (s 60)).length by omega)]
      rw [if_neg (show ¬ (z_show r side w (s 60)).length < (z_show r side v (s 60)).length by omega)] at e'
      simp (disch := omega) only [h.layNow hO hs hw, cl2_so, cl1_so, ck_tr, zl_0, zl_1, zl_2, zl_3, zl_4, zl_5, zl_6, zl_7, zl_8, zl_9, zl_10, zl_11, zl_12, zl_15, zl_16, zl_20, zl_24, zl_25, zl_30, zl_31, zl_32, zl_33, zl_44, zl_48, zl_50, zl_57, zl_59, zl_60, zl_61, zl_62, zl_63, zl_64, zl_68, zl_97, zl_99, zl_100, zl_104, zl_108, zl_114, zl_120, zl_122, zl_126, zl_132, zl_180, zl_181, zl_186, zl_255, zl_900, zl_930, zl_1000, zl_1000000, nI_add, pk_mul, zs_sub, zs_lt, zs_le, zs_eq, zs_inb, zs_cl, zm_eq, zm_eq2, zm_lt, zm_le, mz_lt, mz_le, mm_eq, zs_bit, zs_or1, zs_div, zs_rem, ck_pos, if_pos, if_neg, true_or, or_true, true_and, and_true, false_or, or_false, false_and, and_false, not_true, not_false_iff, if_true, if_false, eq_self, Bool.false_eq_true, cl2_id, Bool.not_true, Bool.not_false]
      exact e'
  | succ j ih =>
    intro k n m h hml h147 hk hn
    obtain ⟨n, rfl⟩ : ∃ n', n = n' + 1 := ⟨n - 1, by omega⟩
    have e5 := fX11_letterAt_e h.2.2 hml la (z_show_lt hO.1.1 hv) hs (k := k) (by omega)
    have hA : Ak sN m (setI m 148 k (nI ((zT r s side v (s 60)).getD k 0))) := (Ak.rf m).set _ (sN_in (by omega) _)
    obtain ⟨m2, f1, f2, f3, f4⟩ := ih (k + 1) n _ (h.ag hA.agN) (fun i hi => (sI_na (by decide)).trans (hml i hi)) (fun i hi => by
      by_cases q : i = k
      · subst q; exact sI_eq _ _ _ _
      · exact (sI_nj q).trans (h147 i (by omega))) (by omega) (by omega)
    refine ⟨m2, ?_, hA.tr f2, f3, fun b k hb => (f4 b k hb).trans (sI_na (by omega))⟩
    rw [fX11_smearOf_11]
    simp (disch := omega) only [e5, cl2_so, cl1_so, ck_tr, zl_0, zl_1, zl_2, zl_3, zl_4, zl_5, zl_6, zl_7, zl_8, zl_9, zl_10, zl_11, zl_12, zl_15, zl_16, zl_20, zl_24, zl_25, zl_30, zl_31, zl_32, zl_33, zl_44, zl_48, zl_50, zl_57, zl_59, zl_60, zl_61, zl_62, zl_63, zl_64, zl_68, zl_97, zl_99, zl_100, zl_104, zl_108, zl_114, zl_120, zl_122, zl_126, zl_132, zl_180, zl_181, zl_186, zl_255, zl_900, zl_930, zl_1000, zl_1000000, nI_add, pk_mul, zs_sub, zs_lt, zs_le, zs_eq, zs_inb, zs_cl, zm_eq, zm_eq2, zm_lt, zm_le, mz_lt, mz_le, mm_eq, zs_bit, zs_or1, zs_div, zs_rem, ck_pos, if_pos, if_neg, true_or, or_true, true_and, and_true, false_or, or_false, false_and, and_false, not_true, not_false_iff, if_true, if_false, eq_self, Bool.false_eq_true, cl2_id, Bool.not_true, Bool.not_false]
    exact f1
theorem KM.smear (h : KM m r s) (hO : KO r s) {side v w : Nat} (hs : side ≤ 1) (hv : v ≤ z_mo r) (hw : w ≤ z_mo r) : ∃ m', fX11_smearOf (nI side) (nI v) (nI w) m = some (nI (sm r s side v w), m') ∧ Ak sN m m' ∧ KM m' r s ∧ ∀ b k, (b < 147 ∨ 148 < b) → m'.1 b k = m.1 b k := by
  have la := z_show_len hO.1.1 (side := side) (br := s 60) hv
  have hA := ak_146 (m := m) (z_show r side v (s 60))
  obtain ⟨m2, f1, f2, f3, f4⟩ := so11 hO hs hv hw (z_show r side v (s 60)).length 0 FU _ (h.ag hA.agN) (ML_wl _) (fun i hi => by omega) (by omega) (FU_pos (by omega))
  refine ⟨m2, ?_, hA.tr f2, f3, fun b k hb => (f4 b k hb).trans (wl_na (by omega))⟩
  unfold fX11_smearOf
  simp (disch := omega) only [h.layNow hO hs hv, cl2_so, cl1_so, ck_tr, zl_0, zl_1, zl_2, zl_3, zl_4, zl_5, zl_6, zl_7, zl_8, zl_9, zl_10, zl_11, zl_12, zl_15, zl_16, zl_20, zl_24, zl_25, zl_30, zl_31, zl_32, zl_33, zl_44, zl_48, zl_50, zl_57, zl_59, zl_60, zl_61, zl_62, zl_63, zl_64, zl_68, zl_97, zl_99, zl_100, zl_104, zl_108, zl_114, zl_120, zl_122, zl_126, zl_132, zl_180, zl_181, zl_186, zl_255, zl_900, zl_930, zl_1000, zl_1000000, nI_add, pk_mul, zs_sub, zs_lt, zs_le, zs_eq, zs_inb, zs_cl, zm_eq, zm_eq2, zm_lt, zm_le, mz_lt, mz_le, mm_eq, zs_bit, zs_or1, zs_div, zs_rem, ck_pos, if_pos, if_neg, true_or, or_true, true_and, and_true, false_or, or_false, false_and, and_false, not_true, not_false_iff, if_true, if_false, eq_self, Bool.false_eq_true, cl2_id, Bool.not_true, Bool.not_false]
  exact f1
def vsm (H : Bool) (r : Nat → Nat) (x1 x2 x3 : Int32) : Nat := if vw H r x1 x2 = 0 then vw H r x1 x3 else vw H r x1 x2
theorem vw_parts (h : vw H r x1 x2 = 0) : vN H 2 x1 = true ∧ vO r x2 = true := by
  unfold vw at h
  cases q : vN H 2 x1
  · rw [q] at h; simp at h
  · rw [q] at h
    cases q2 : vO r x2
    · rw [q2] at h; simp at h
    · exact ⟨rfl, rfl⟩
theorem vw_2 (h : vN H 2 x1 = true) (h2 : vO r x2 = false) : vw H r x1 x2 = 2 := by
  unfold vw
  rw [h, h2]
  simp
theorem vw_1 (h : vN H 2 x1 = false) : vw H r x1 x2 = 1 := by
  unfold vw
  rw [h]
  simp
theorem vw_0 (h : vN H 2 x1 = true) (h2 : vO r x2 = true) : vw H r x1 x2 = 0 := by
  unfold vw
  rw [h, h2]
  simp
theorem isOp_1 {m : Me} (hM1 : JM m true r s) (hO : JO true r s) (h : vO r x1 = true) : fX11_isOpening x1 m = some (nI 1, m) := by
  have e := fX11_isOpening_e (x := x1) hM1 hO
  rw [h, if_pos rfl] at e
  exact e
theorem isOp_0 {m : Me} (hM1 : JM m true r s) (hO : JO true r s) (h : vO r x1 = false) : fX11_isOpening x1 m = some (nI 0, m) := by
  have e := fX11_isOpening_e (x := x1) hM1 hO
  rw [h, if_neg (show ¬ false = true by decide)] at e
  exact e
theorem smM (hM1 : JM (gdM m) H r s) (hO : JO H r s) : (vw H r x1 x2 ≠ 0 → AnsM (fX11_smear x1 x2 x3 m) (-nI 1) (vw H r x1 x2) m) ∧ (vw H r x1 x2 = 0 → vw H r x1 x3 ≠ 0 → AnsM (fX11_smear x1 x2 x3 m) (-nI 1) (vw H r x1 x3) m) := by
  constructor
  · intro hv
    unfold fX11_smear fX11_smear_44 fX11_smear_49
    cases h1v : vN H 2 x1
    · rw [vw_1 h1v]
      rw [gd_e, cl1_so, cl2_e (fX11_isSide_e hM1), h1v]
      exact ansM_no 1 (gd_ak m)
    · have hH := vN_H h1v
      subst hH
      cases h2v : vO r x2
      · rw [vw_2 h1v h2v]
        rw [gd_e, cl1_so, cl2_e (fX11_isSide_e hM1), h1v]
        rw [if_neg (by decide), cl2_e (isOp_0 hM1 hO h2v)]
        exact ansM_no 2 (gd_ak m)
      · exact absurd (vw_0 h1v h2v) hv
  · intro hv hv3
    obtain ⟨h1v, h2v⟩ := vw_parts hv
    have hH := vN_H h1v
    subst hH
    unfold fX11_smear fX11_smear_44 fX11_smear_49
    cases h3v : vO r x3
    · rw [vw_2 h1v h3v]
      rw [gd_e, cl1_so, cl2_e (fX11_isSide_e hM1), h1v]
      rw [if_neg (by decide), cl2_e (isOp_1 hM1 hO h2v), if_neg (by decide), cl2_e (isOp_0 hM1 hO h3v)]
      exact ansM_no 2 (gd_ak m)
    · exact absurd (vw_0 h1v h3v) hv3
theorem b_smear (hI : Inv m) (hC : JC m H r s) (hM : JM m H r s) (hO : JO H r s) : Both (fX10_smear x1 x2 x3) (fX11_smear x1 x2 x3) m := by
  have hle := vw_le H r x1 x2
  have hle3 := vw_le H r x1 x3
  have hMs : ∀ m1, Ak sC m m1 → JM (gdM m1) H r s := fun m1 h1 => hM.ag (h1.agC.tr (gd_ak m1).agM)
  by_cases hv : vw H r x1 x2 = 0
  · by_cases hv3 : vw H r x1 x3 = 0
    · obtain ⟨v1, v2⟩ := vw_parts hv
      obtain ⟨-, v3⟩ := vw_parts hv3
      obtain ⟨rfl, side, op, a, b, rfl, rfl⟩ := vw_out (fun e => (hO e).1.1) hv
      obtain ⟨-, side', w, a', b', ra, rfl⟩ := vw_out (fun e => (hO e).1.1) hv3
      have hK : KO r s := hO rfl
      obtain ⟨m', e, g1, g2, -⟩ := (hC.kc hI).smear hK a b b'
      refine ⟨nI (sm r s side op w), 0, ?_, fun m1 h1 => ?_⟩
      · unfold fX10_smear fX10_smear_21 fX10_smear_46
        simp (disch := omega) only [fX10_wrongView_e hC hO, hv, hv3, e, cl2_so, cl1_so, ck_tr, zl_0, zl_1, zl_2, zl_3, zl_4, zl_5, zl_6, zl_7, zl_8, zl_9, zl_10, zl_11, zl_12, zl_15, zl_16, zl_20, zl_24, zl_25, zl_30, zl_31, zl_32, zl_33, zl_44, zl_48, zl_50, zl_57, zl_59, zl_60, zl_61, zl_62, zl_63, zl_64, zl_68, zl_97, zl_99, zl_100, zl_104, zl_108, zl_114, zl_120, zl_122, zl_126, zl_132, zl_180, zl_181, zl_186, zl_255, zl_900, zl_930, zl_1000, zl_1000000, nI_add, pk_mul, zs_sub, zs_lt, zs_le, zs_eq, zs_inb, zs_cl, zm_eq, zm_eq2, zm_lt, zm_le, mz_lt, mz_le, mm_eq, zs_bit, zs_or1, zs_div, zs_rem, ck_pos, if_pos, if_neg, true_or, or_true, true_and, and_true, false_or, or_false, false_and, and_false, not_true, not_false_iff, if_true, if_false, eq_self, Bool.false_eq_true, cl2_id, Bool.not_true, Bool.not_false]
        exact ansC_ok _ g1
      · have hM1 := hMs m1 h1
        obtain ⟨m2, e2, f1, -⟩ := hM1.km.smear hK a b b'
        unfold fX11_smear fX11_smear_44 fX11_smear_49
        rw [gd_e, cl1_so, cl2_e (fX11_isSide_e hM1), v1]
        rw [if_neg (by decide), cl2_e (isOp_1 hM1 hO v2), if_neg (by decide), cl2_e (isOp_1 hM1 hO v3), if_neg (by decide), cl2_e e2]
        exact ansN_ok _ f1
    · refine ⟨-nI 1, vw H r x1 x3, ?_, fun m1 h1 => (smM (hMs m1 h1) hO).2 hv hv3⟩
      unfold fX10_smear fX10_smear_21 fX10_smear_46
      simp (disch := omega) only [fX10_wrongView_e hC hO, hv, cl2_so, cl1_so, ck_tr, zl_0, zl_1, zl_2, zl_3, zl_4, zl_5, zl_6, zl_7, zl_8, zl_9, zl_10, zl_11, zl_12, zl_15, zl_16, zl_20, zl_24, zl_25, zl_30, zl_31, zl_32, zl_33, zl_44, zl_48, zl_50, zl_57, zl_59, zl_60, zl_61, zl_62, zl_63, zl_64, zl_68, zl_97, zl_99, zl_100, zl_104, zl_108, zl_114, zl_120, zl_122, zl_126, zl_132, zl_180, zl_181, zl_186, zl_255, zl_900, zl_930, zl_1000, zl_1000000, nI_add, pk_mul, zs_sub, zs_lt, zs_le, zs_eq, zs_inb, zs_cl, zm_eq, zm_eq2, zm_lt, zm_le, mz_lt, mz_le, mm_eq, zs_bit, zs_or1, zs_div, zs_rem, ck_pos, if_pos, if_neg, true_or, or_true, true_and, and_true, false_or, or_false, false_and, and_false, not_true, not_false_iff, if_true, if_false, eq_self, Bool.false_eq_true, cl2_id, Bool.not_true, Bool.not_false]
      exact ansC_no _ (Ak.rf m)
  · refine ⟨-nI 1, vw H r x1 x2, ?_, fun m1 h1 => (smM (hMs m1 h1) hO).1 hv⟩
    unfold fX10_smear fX10_smear_21 fX10_smear_46
    simp (disch := omega) only [fX10_wrongView_e hC hO, cl2_so, cl1_so, ck_tr, zl_0, zl_1, zl_2, zl_3, zl_4, zl_5, zl_6, zl_7, zl_8, zl_9, zl_10, zl_11, zl_12, zl_15, zl_16, zl_20, zl_24, zl_25, zl_30, zl_31, zl_32, zl_33, zl_44, zl_48, zl_50, zl_57, zl_59, zl_60, zl_61, zl_62, zl_63, zl_64, zl_68, zl_97, zl_99, zl_100, zl_104, zl_108, zl_114, zl_120, zl_122, zl_126, zl_132, zl_180, zl_181, zl_186, zl_255, zl_900, zl_930, zl_1000, zl_1000000, nI_add, pk_mul, zs_sub, zs_lt, zs_le, zs_eq, zs_inb, zs_cl, zm_eq, zm_eq2, zm_lt, zm_le, mz_lt, mz_le, mm_eq, zs_bit, zs_or1, zs_div, zs_rem, ck_pos, if_pos, if_neg, true_or, or_true, true_and, and_true, false_or, or_false, false_and, and_false, not_true, not_false_iff, if_true, if_false, eq_self, Bool.false_eq_true, cl2_id, Bool.not_true, Bool.not_false]
    exact ansC_no _ (Ak.rf m)
/-! beats -/
def zbs (r s : Nat → Nat) : Nat → Nat → Nat
  | _, 0 => 0
  | k, j + 1 => sm r s 0 (r (180 + (k - 1))) (r (180 + k)) + zbs r s (k + 1) j
theorem zbs_le (hO : KO r s) : ∀ j k, 1 ≤ k → k + j ≤ r 8 → zbs r s k j ≤ 30 * j
  | 0, k, _, _ => Nat.le_refl _
  | j + 1, k, h1, h2 => by
    have e1 := sm_le hO (side := 0) (hO.1.2.2.2.2.2.2.2.2.2.2.1 (k - 1) (by omega)) (hO.1.2.2.2.2.2.2.2.2.2.2.1 k (by omega))
    have e2 := zbs_le hO j (k + 1) (by omega) (by omega)
    rw [zbs]
    omega
theorem sb4 (hO : KO r s) : ∀ j k n q (m : Me), KC m t r s → 1 ≤ k → k + j = r 8 → j < n → ∃ m', fX10_smearOfBeats_4 n (nI q) (nI k) m = some (nI (q + zbs r s k j), m') ∧ Ak sC m m' ∧ KC m' t r s := by
  have h8 := hO.1.2.2.2.2.2.2.1
  intro j
  induction j with
  | zero =>
    intro k n q m h h1 hk hn
    obtain ⟨n, rfl⟩ : ∃ n', n = n' + 1 := ⟨n - 1, by omega⟩
    have e13 := h.2.2.1.2.1.2.2.2.2
    refine ⟨m, ?_, Ak.rf m, h⟩
    rw [fX10_smearOfBeats_4, zbs]
    simp (disch := omega) only [h.1, e13, Nat.add_zero, cl2_so, cl1_so, ck_tr, zl_0, zl_1, zl_2, zl_3, zl_4, zl_5, zl_6, zl_7, zl_8, zl_9, zl_10, zl_11, zl_12, zl_15, zl_16, zl_20, zl_24, zl_25, zl_30, zl_31, zl_32, zl_33, zl_44, zl_48, zl_50, zl_57, zl_59, zl_60, zl_61, zl_62, zl_63, zl_64, zl_68, zl_97, zl_99, zl_100, zl_104, zl_108, zl_114, zl_120, zl_122, zl_126, zl_132, zl_180, zl_181, zl_186, zl_255, zl_900, zl_930, zl_1000, zl_1000000, nI_add, pk_mul, zs_sub, zs_lt, zs_le, zs_eq, zs_inb, zs_cl, zm_eq, zm_eq2, zm_lt, zm_le, mz_lt, mz_le, mm_eq, zs_bit, zs_or1, zs_div, zs_rem, ck_pos, if_pos, if_neg, true_or, or_true, true_and, and_true, false_or, or_false, false_and, and_false, not_true, not_false_iff, if_true, if_false, eq_self, Bool.false_eq_true, cl2_id, Bool.not_true, Bool.not_false]
  | succ j ih =>
    intro k n q m h h1 hk hn
    obtain ⟨n, rfl⟩ : ∃ n', n = n' + 1 := ⟨n - 1, by omega⟩
    have e13 := h.2.2.1.2.1.2.2.2.2
    have eb := h.beat (b := k) (by omega)
    have eb1 := h.beat (b := k - 1) (by omega)
    obtain ⟨m1, e, g1, g2, -⟩ := h.smear hO (side := 0) (by omega) (hO.1.2.2.2.2.2.2.2.2.2.2.1 (k - 1) (by omega)) (hO.1.2.2.2.2.2.2.2.2.2.2.1 k (by omega))
    obtain ⟨m2, f1, f2, f3⟩ := ih (k + 1) n (q + sm r s 0 (r (180 + (k - 1))) (r (180 + k))) m1 g2 (by omega) (by omega) (by omega)
    refine ⟨m2, ?_, g1.tr f2, f3⟩
    rw [fX10_smearOfBeats_4, zbs]
    simp (disch := omega) only [h.1, e13, eb, eb1, e, cl2_so, cl1_so, ck_tr, zl_0, zl_1, zl_2, zl_3, zl_4, zl_5, zl_6, zl_7, zl_8, zl_9, zl_10, zl_11, zl_12, zl_15, zl_16, zl_20, zl_24, zl_25, zl_30, zl_31, zl_32, zl_33, zl_44, zl_48, zl_50, zl_57, zl_59, zl_60, zl_61, zl_62, zl_63, zl_64, zl_68, zl_97, zl_99, zl_100, zl_104, zl_108, zl_114, zl_120, zl_122, zl_126, zl_132, zl_180, zl_181, zl_186, zl_255, zl_900, zl_930, zl_1000, zl_1000000, nI_add, pk_mul, zs_sub, zs_lt, zs_le, zs_eq, zs_inb, zs_cl, zm_eq, zm_eq2, zm_lt, zm_le, mz_lt, mz_le, mm_eq, zs_bit, zs_or1, zs_div, zs_rem, ck_pos, if_pos, if_neg, true_or, or_true, true_and, and_true, false_or, or_false, false_and, and_false, not_true, not_false_iff, if_true, if_false, eq_self, Bool.false_eq_true, cl2_id, Bool.not_true, Bool.not_false]
    rw [f1, Nat.add_assoc]
theorem bo4 (hO : KO r s) : ∀ j k n q (m : Me), KM m r s → 1 ≤ k → k + j = r 8 → j < n → ∃ m', fX11_beatsOf_4 n (nI q) (nI k) m = some (nI (q + zbs r s k j), m') ∧ Ak sN m m' ∧ KM m' r s := by
  have h8 := hO.1.2.2.2.2.2.2.1
  intro j
  induction j with
  | zero =>
    intro k n q m h h1 hk hn
    obtain ⟨n, rfl⟩ : ∃ n', n = n' + 1 := ⟨n - 1, by omega⟩
    refine ⟨m, ?_, Ak.rf m, h⟩
    rw [fX11_beatsOf_4, zbs]
    simp (disch := omega) only [h.2.1 8 (by omega), Nat.add_zero, cl2_so, cl1_so, ck_tr, zl_0, zl_1, zl_2, zl_3, zl_4, zl_5, zl_6, zl_7, zl_8, zl_9, zl_10, zl_11, zl_12, zl_15, zl_16, zl_20, zl_24, zl_25, zl_30, zl_31, zl_32, zl_33, zl_44, zl_48, zl_50, zl_57, zl_59, zl_60, zl_61, zl_62, zl_63, zl_64, zl_68, zl_97, zl_99, zl_100, zl_104, zl_108, zl_114, zl_120, zl_122, zl_126, zl_132, zl_180, zl_181, zl_186, zl_255, zl_900, zl_930, zl_1000, zl_1000000, nI_add, pk_mul, zs_sub, zs_lt, zs_le, zs_eq, zs_inb, zs_cl, zm_eq, zm_eq2, zm_lt, zm_le, mz_lt, mz_le, mm_eq, zs_bit, zs_or1, zs_div, zs_rem, ck_pos, if_pos, if_neg, true_or, or_true, true_and, and_true, false_or, or_false, false_and, and_false, not_true, not_false_iff, if_true, if_false, eq_self, Bool.false_eq_true, cl2_id, Bool.not_true, Bool.not_false]
  | succ j ih =>
    intro k n q m h h1 hk hn
    obtain ⟨n, rfl⟩ : ∃ n', n = n' + 1 := ⟨n - 1, by omega⟩
    have eb := h.2.1 (180 + k) (by omega)
    have eb1 := h.2.1 (180 + (k - 1)) (by omega)
    have ek : 180 + k - 1 = 180 + (k - 1) := by omega
    obtain ⟨m1, e, g1, g2, -⟩ := h.smear hO (side := 0) (by omega) (hO.1.2.2.2.2.2.2.2.2.2.2.1 (k - 1) (by omega)) (hO.1.2.2.2.2.2.2.2.2.2.2.1 k (by omega))
    obtain ⟨m2, f1, f2, f3⟩ := ih (k + 1) n (q + sm r s 0 (r (180 + (k - 1))) (r (180 + k))) m1 g2 (by omega) (by omega) (by omega)
    refine ⟨m2, ?_, g1.tr f2, f3⟩
    rw [fX11_beatsOf_4, zbs]
    simp (disch := omega) only [h.2.1 8 (by omega), ek, eb, eb1, e, cl2_so, cl1_so, ck_tr, zl_0, zl_1, zl_2, zl_3, zl_4, zl_5, zl_6, zl_7, zl_8, zl_9, zl_10, zl_11, zl_12, zl_15, zl_16, zl_20, zl_24, zl_25, zl_30, zl_31, zl_32, zl_33, zl_44, zl_48, zl_50, zl_57, zl_59, zl_60, zl_61, zl_62, zl_63, zl_64, zl_68, zl_97, zl_99, zl_100, zl_104, zl_108, zl_114, zl_120, zl_122, zl_126, zl_132, zl_180, zl_181, zl_186, zl_255, zl_900, zl_930, zl_1000, zl_1000000, nI_add, pk_mul, zs_sub, zs_lt, zs_le, zs_eq, zs_inb, zs_cl, zm_eq, zm_eq2, zm_lt, zm_le, mz_lt, mz_le, mm_eq, zs_bit, zs_or1, zs_div, zs_rem, ck_pos, if_pos, if_neg, true_or, or_true, true_and, and_true, false_or, or_false, false_and, and_false, not_true, not_false_iff, if_true, if_false, eq_self, Bool.false_eq_true, cl2_id, Bool.not_true, Bool.not_false]
    rw [f1, Nat.add_assoc]
theorem KC.beats (h : KC m t r s) (hO : KO r s) (h0 : r 8 ≠ 0) : ∃ m', fX10_smearOfBeats m = some (nI (zbs r s 1 (r 8 - 1)), m') ∧ Ak sC m m' ∧ KC m' t r s := by
  have h8 := hO.1.2.2.2.2.2.2.1
  obtain ⟨m', e, g⟩ := sb4 hO (r 8 - 1) 1 FU 0 m h (by omega) (by omega) (FU_pos (by omega))
  rw [Nat.zero_add] at e
  exact ⟨m', e, g⟩
theorem KM.beats (h : KM m r s) (hO : KO r s) (h0 : r 8 ≠ 0) : ∃ m', fX11_beatsOf m = some (nI (zbs r s 1 (r 8 - 1)), m') ∧ Ak sN m m' ∧ KM m' r s := by
  have h8 := hO.1.2.2.2.2.2.2.1
  obtain ⟨m', e, g⟩ := bo4 hO (r 8 - 1) 1 FU 0 m h (by omega) (by omega) (FU_pos (by omega))
  rw [Nat.zero_add] at e
  exact ⟨m', e, g⟩
theorem vb_le (H : Bool) (r : Nat → Nat) : vb H r ≤ 6 := by
  unfold vb
  split
  · split <;> omega
  · omega
theorem vb_out (h : vb H r = 0) : H = true ∧ r 8 ≠ 0 := by
  unfold vb at h
  cases H
  · cases h
  · refine ⟨rfl, fun q => ?_⟩
    rw [if_pos rfl, if_pos q] at h
    cases h
theorem b_beats (hI : Inv m) (hC : JC m H r s) (hM : JM m H r s) (hO : JO H r s) : Both fX10_beats fX11_beats m := by
  have hle := vb_le H r
  by_cases hv : vb H r = 0
  · obtain ⟨rfl, h0⟩ := vb_out hv
    have hK : KO r s := hO rfl
    obtain ⟨m', e, g1, g2⟩ := (hC.kc hI).beats hK h0
    refine ⟨nI (zbs r s 1 (r 8 - 1)), 0, ?_, fun m1 h1 => ?_⟩
    · unfold fX10_beats fX10_beats_25
      simp (disch := omega) only [fX10_wrongBeats_e hC hO, hv, e, cl2_so, cl1_so, ck_tr, zl_0, zl_1, zl_2, zl_3, zl_4, zl_5, zl_6, zl_7, zl_8, zl_9, zl_10, zl_11, zl_12, zl_15, zl_16, zl_20, zl_24, zl_25, zl_30, zl_31, zl_32, zl_33, zl_44, zl_48, zl_50, zl_57, zl_59, zl_60, zl_61, zl_62, zl_63, zl_64, zl_68, zl_97, zl_99, zl_100, zl_104, zl_108, zl_114, zl_120, zl_122, zl_126, zl_132, zl_180, zl_181, zl_186, zl_255, zl_900, zl_930, zl_1000, zl_1000000, nI_add, pk_mul, zs_sub, zs_lt, zs_le, zs_eq, zs_inb, zs_cl, zm_eq, zm_eq2, zm_lt, zm_le, mz_lt, mz_le, mm_eq, zs_bit, zs_or1, zs_div, zs_rem, ck_pos, if_pos, if_neg, true_or, or_true, true_and, and_true, false_or, or_false, false_and, and_false, not_true, not_false_iff, if_true, if_false, eq_self, Bool.false_eq_true, cl2_id, Bool.not_true, Bool.not_false]
      exact ansC_ok _ g1
    · have hM1 := hM.ag (h1.agC.tr (gd_ak m1).agM)
      obtain ⟨m2, e2, f1, -⟩ := hM1.km.beats hK h0
      unfold fX11_beats fX11_beats_25
      simp (disch := omega) only [gd_e, fX11_beatWhy_e hM1 hO, hv, e2, cl2_so, cl1_so, ck_tr, zl_0, zl_1, zl_2, zl_3, zl_4, zl_5, zl_6, zl_7, zl_8, zl_9, zl_10, zl_11, zl_12, zl_15, zl_16, zl_20, zl_24, zl_25, zl_30, zl_31, zl_32, zl_33, zl_44, zl_48, zl_50, zl_57, zl_59, zl_60, zl_61, zl_62, zl_63, zl_64, zl_68, zl_97, zl_99, zl_100, zl_104, zl_108, zl_114, zl_120, zl_122, zl_126, zl_132, zl_180, zl_181, zl_186, zl_255, zl_900, zl_930, zl_1000, zl_1000000, nI_add, pk_mul, zs_sub, zs_lt, zs_le, zs_eq, zs_inb, zs_cl, zm_eq, zm_eq2, zm_lt, zm_le, mz_lt, mz_le, mm_eq, zs_bit, zs_or1, zs_div, zs_rem, ck_pos, if_pos, if_neg, true_or, or_true, true_and, and_true, false_or, or_false, false_and, and_false, not_true, not_false_iff, if_true, if_false, eq_self, Bool.false_eq_true, cl2_id, Bool.not_true, Bool.not_false]
      exact ansN_ok _ f1
  · refine ⟨-nI 1, vb H r, ?_, fun m1 h1 => ?_⟩
    · unfold fX10_beats fX10_beats_25
      simp (disch := omega) only [fX10_wrongBeats_e hC hO, cl2_so, cl1_so, ck_tr, zl_0, zl_1, zl_2, zl_3, zl_4, zl_5, zl_6, zl_7, zl_8, zl_9, zl_10, zl_11, zl_12, zl_15, zl_16, zl_20, zl_24, zl_25, zl_30, zl_31, zl_32, zl_33, zl_44, zl_48, zl_50, zl_57, zl_59, zl_60, zl_61, zl_62, zl_63, zl_64, zl_68, zl_97, zl_99, zl_100, zl_104, zl_108, zl_114, zl_120, zl_122, zl_126, zl_132, zl_180, zl_181, zl_186, zl_255, zl_900, zl_930, zl_1000, zl_1000000, nI_add, pk_mul, zs_sub, zs_lt, zs_le, zs_eq, zs_inb, zs_cl, zm_eq, zm_eq2, zm_lt, zm_le, mz_lt, mz_le, mm_eq, zs_bit, zs_or1, zs_div, zs_rem, ck_pos, if_pos, if_neg, true_or, or_true, true_and, and_true, false_or, or_false, false_and, and_false, not_true, not_false_iff, if_true, if_false, eq_self, Bool.false_eq_true, cl2_id, Bool.not_true, Bool.not_false]
      exact ansC_no _ (Ak.rf m)
    · have hM1 := hM.ag (h1.agC.tr (gd_ak m1).agM)
      unfold fX11_beats fX11_beats_25
      simp (disch := omega) only [gd_e, fX11_beatWhy_e hM1 hO, cl2_so, cl1_so, ck_tr, zl_0, zl_1, zl_2, zl_3, zl_4, zl_5, zl_6, zl_7, zl_8, zl_9, zl_10, zl_11, zl_12, zl_15, zl_16, zl_20, zl_24, zl_25, zl_30, zl_31, zl_32, zl_33, zl_44, zl_48, zl_50, zl_57, zl_59, zl_60, zl_61, zl_62, zl_63, zl_64, zl_68, zl_97, zl_99, zl_100, zl_104, zl_108, zl_114, zl_120, zl_122, zl_126, zl_132, zl_180, zl_181, zl_186, zl_255, zl_900, zl_930, zl_1000, zl_1000000, nI_add, pk_mul, zs_sub, zs_lt, zs_le, zs_eq, zs_inb, zs_cl, zm_eq, zm_eq2, zm_lt, zm_le, mz_lt, mz_le, mm_eq, zs_bit, zs_or1, zs_div, zs_rem, ck_pos, if_pos, if_neg, true_or, or_true, true_and, and_true, false_or, or_false, false_and, and_false, not_true, not_false_iff, if_true, if_false, eq_self, Bool.false_eq_true, cl2_id, Bool.not_true, Bool.not_false]
      exact ansM_no _ (gd_ak m1)
end C13
