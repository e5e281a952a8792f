/-! kept, allKept, loses, flutters -/
def z_kb (r s : Nat → Nat) (br i : Nat) : Bool := rd (z_wish r i) (zT r s (r (100 + i)) (r (104 + i)) br)
section C4
variable {m : Me} {H : Bool} {t : Nat} {r s : Nat → Nat} {x1 x2 x3 x4 : Int32}
theorem kb4 (hO : KO r s) {br : Nat} (hb : br < 1024) : ∀ j k n acc (m : Me), KC m t r s → k + j = r 6 → j < n → ∃ m', fX10_keptBits_4 n (nI br) (nI acc) (nI k) m = some (nI (z_or (z_kb r s br) k j acc), m') ∧ Ak sC m m' ∧ KC m' t r s := by
  have h6 := hO.1.2.2.2.2.1
  intro j
  induction j with
  | zero =>
    intro k n acc m h hk hn
    obtain ⟨n, rfl⟩ : ∃ n', n = n' + 1 := ⟨n - 1, by omega⟩
    refine ⟨m, ?_, Ak.rf m, h⟩
    have e9 := h.2.2.1.2.1.2.2.1
    rw [fX10_keptBits_4, z_or]
    simp (disch := omega) only [h.1, e9, cl2_so, cl1_so, ck_tr, zl_0, zl_1, zl_2, zl_3, zl_4, zl_5, zl_6, zl_7, zl_8, zl_9, zl_10, zl_11, zl_12, zl_15, zl_16, zl_20, zl_24, zl_25, zl_30, zl_31, zl_32, zl_33, zl_44, zl_48, zl_50, zl_57, zl_59, zl_60, zl_61, zl_62, zl_63, zl_64, zl_68, zl_97, zl_99, zl_100, zl_104, zl_108, zl_114, zl_120, zl_122, zl_126, zl_132, zl_180, zl_181, zl_186, zl_255, zl_900, zl_930, zl_1000, zl_1000000, nI_add, pk_mul, zs_sub, zs_lt, zs_le, zs_eq, zs_inb, zs_cl, zm_eq, zm_eq2, zm_lt, zm_le, mz_lt, mz_le, mm_eq, zs_bit, zs_or1, zs_div, zs_rem, ck_pos, if_pos, if_neg, true_or, or_true, true_and, and_true, false_or, or_false, false_and, and_false, not_true, not_false_iff, if_true, if_false, eq_self, Bool.false_eq_true, cl2_id, Bool.not_true, Bool.not_false]
  | succ j ih =>
    intro k n acc m h hk hn
    obtain ⟨n, rfl⟩ : ∃ n', n = n' + 1 := ⟨n - 1, by omega⟩
    have e9 := h.2.2.1.2.1.2.2.1
    have ht := h.tt
    obtain ⟨hS, e2, e3⟩ := h.wish (w := k) (by omega)
    obtain ⟨-, -, o1, o2, -⟩ := hO.1.2.2.2.2.2.2.2.2.1 k (by omega)
    obtain ⟨m1, e, g1, g2⟩ := h.isRead hO (br := br) (wish_ok hO.1 (w := k) (by omega)) hS (by omega) o1 o2 hb
    rw [fX10_keptBits_4, z_or]
    unfold fX10_keptBits_52
    rw [rdB_e] at e
    have hg' : z_kb r s br k = rd (z_wish r k) (zT r s (r (100 + k)) (r (104 + k)) br) := rfl
    cases hg : rd (z_wish r k) (zT r s (r (100 + k)) (r (104 + k)) br)
    · obtain ⟨m2, f1, f2, f3⟩ := ih (k + 1) n acc m1 g2 (by omega) (by omega)
      refine ⟨m2, ?_, g1.tr f2, f3⟩
      simp (disch := omega) only [h.1, e9, e2, e3, e, hg', hg, cl2_so, cl1_so, ck_tr, zl_0, zl_1, zl_2, zl_3, zl_4, zl_5, zl_6, zl_7, zl_8, zl_9, zl_10, zl_11, zl_12, zl_15, zl_16, zl_20, zl_24, zl_25, zl_30, zl_31, zl_32, zl_33, zl_44, zl_48, zl_50, zl_57, zl_59, zl_60, zl_61, zl_62, zl_63, zl_64, zl_68, zl_97, zl_99, zl_100, zl_104, zl_108, zl_114, zl_120, zl_122, zl_126, zl_132, zl_180, zl_181, zl_186, zl_255, zl_900, zl_930, zl_1000, zl_1000000, nI_add, pk_mul, zs_sub, zs_lt, zs_le, zs_eq, zs_inb, zs_cl, zm_eq, zm_eq2, zm_lt, zm_le, mz_lt, mz_le, mm_eq, zs_bit, zs_or1, zs_div, zs_rem, ck_pos, if_pos, if_neg, true_or, or_true, true_and, and_true, false_or, or_false, false_and, and_false, not_true, not_false_iff, if_true, if_false, eq_self, Bool.false_eq_true, cl2_id, Bool.not_true, Bool.not_false]
      exact f1
    · obtain ⟨m2, f1, f2, f3⟩ := ih (k + 1) n (acc ||| 2 ^ k) m1 g2 (by omega) (by omega)
      refine ⟨m2, ?_, g1.tr f2, f3⟩
      simp (disch := omega) only [h.1, e9, e2, e3, e, hg', hg, cl2_so, cl1_so, ck_tr, zl_0, zl_1, zl_2, zl_3, zl_4, zl_5, zl_6, zl_7, zl_8, zl_9, zl_10, zl_11, zl_12, zl_15, zl_16, zl_20, zl_24, zl_25, zl_30, zl_31, zl_32, zl_33, zl_44, zl_48, zl_50, zl_57, zl_59, zl_60, zl_61, zl_62, zl_63, zl_64, zl_68, zl_97, zl_99, zl_100, zl_104, zl_108, zl_114, zl_120, zl_122, zl_126, zl_132, zl_180, zl_181, zl_186, zl_255, zl_900, zl_930, zl_1000, zl_1000000, nI_add, pk_mul, zs_sub, zs_lt, zs_le, zs_eq, zs_inb, zs_cl, zm_eq, zm_eq2, zm_lt, zm_le, mz_lt, mz_le, mm_eq, zs_bit, zs_or1, zs_div, zs_rem, ck_pos, if_pos, if_neg, true_or, or_true, true_and, and_true, false_or, or_false, false_and, and_false, not_true, not_false_iff, if_true, if_false, eq_self, Bool.false_eq_true, cl2_id, Bool.not_true, Bool.not_false]
      exact f1
theorem KC.keptBits (h : KC m t r s) (hO : KO r s) {br : Nat} (hb : br < 1024) : ∃ m', fX10_keptBits (nI br) m = some (nI (z_or (z_kb r s br) 0 (r 6) 0), m') ∧ Ak sC m m' ∧ KC m' t r s := by
  have h6 := hO.1.2.2.2.2.1
  exact kb4 hO hb (r 6) 0 FU 0 m h (by omega) (FU_pos (by omega))
theorem KM.isKept (h : KM m r s) (hO : KO r s) {br i : Nat} (hb : br < 1024) (hi : i < r 6) : ∃ m', fX11_isKeptWith (nI i) (nI br) m = some (nI (if z_kb r s br i then 1 else 0), m') ∧ Ak sN m m' ∧ KM m' r s := by
  have h6 := hO.1.2.2.2.2.1
  obtain ⟨-, o8, o1, o2, -⟩ := hO.1.2.2.2.2.2.2.2.2.1 i hi
  obtain ⟨m1, e, g1, g2, -⟩ := h.reads hO (fr := 68 + 8 * i) (many := r (64 + i)) (br := br) o1 o2 hb (by omega)
  refine ⟨m1, ?_, g1, g2⟩
  have e1 := h.2.1 (64 + i) (by omega)
  have e2 := h.2.1 (100 + i) (by omega)
  have e3 := h.2.1 (104 + i) (by omega)
  unfold fX11_isKeptWith fX11_isKeptWith_47
  have hbd : z_rdN (z_w r (68 + 8 * i) (r (64 + i))) (zT r s (r (100 + i)) (r (104 + i)) br) ≤ 30 := Nat.le_trans (z_ct_le _ _ _) (zT_30 hO _ o2)
  cases hg : z_kb r s br i
  · have h0 : z_rdN (z_w r (68 + 8 * i) (r (64 + i))) (zT r s (r (100 + i)) (r (104 + i)) br) = 0 := rd_0 hg
    simp (disch := omega) only [e1, e2, e3, e, h0, cl2_so, cl1_so, ck_tr, zl_0, zl_1, zl_2, zl_3, zl_4, zl_5, zl_6, zl_7, zl_8, zl_9, zl_10, zl_11, zl_12, zl_15, zl_16, zl_20, zl_24, zl_25, zl_30, zl_31, zl_32, zl_33, zl_44, zl_48, zl_50, zl_57, zl_59, zl_60, zl_61, zl_62, zl_63, zl_64, zl_68, zl_97, zl_99, zl_100, zl_104, zl_108, zl_114, zl_120, zl_122, zl_126, zl_132, zl_180, zl_181, zl_186, zl_255, zl_900, zl_930, zl_1000, zl_1000000, nI_add, pk_mul, zs_sub, zs_lt, zs_le, zs_eq, zs_inb, zs_cl, zm_eq, zm_eq2, zm_lt, zm_le, mz_lt, mz_le, mm_eq, zs_bit, zs_or1, zs_div, zs_rem, ck_pos, if_pos, if_neg, true_or, or_true, true_and, and_true, false_or, or_false, false_and, and_false, not_true, not_false_iff, if_true, if_false, eq_self, Bool.false_eq_true, cl2_id, Bool.not_true, Bool.not_false]
  · have h0 : 1 ≤ z_rdN (z_w r (68 + 8 * i) (r (64 + i))) (zT r s (r (100 + i)) (r (104 + i)) br) := rd_1 hg
    simp (disch := omega) only [e1, e2, e3, e, cl2_so, cl1_so, ck_tr, zl_0, zl_1, zl_2, zl_3, zl_4, zl_5, zl_6, zl_7, zl_8, zl_9, zl_10, zl_11, zl_12, zl_15, zl_16, zl_20, zl_24, zl_25, zl_30, zl_31, zl_32, zl_33, zl_44, zl_48, zl_50, zl_57, zl_59, zl_60, zl_61, zl_62, zl_63, zl_64, zl_68, zl_97, zl_99, zl_100, zl_104, zl_108, zl_114, zl_120, zl_122, zl_126, zl_132, zl_180, zl_181, zl_186, zl_255, zl_900, zl_930, zl_1000, zl_1000000, nI_add, pk_mul, zs_sub, zs_lt, zs_le, zs_eq, zs_inb, zs_cl, zm_eq, zm_eq2, zm_lt, zm_le, mz_lt, mz_le, mm_eq, zs_bit, zs_or1, zs_div, zs_rem, ck_pos, if_pos, if_neg, true_or, or_true, true_and, and_true, false_or, or_false, false_and, and_false, not_true, not_false_iff, if_true, if_false, eq_self, Bool.false_eq_true, cl2_id, Bool.not_true, Bool.not_false]
theorem kw4 (hO : KO r s) {br : Nat} (hb : br < 1024) : ∀ j k n acc (m : Me), KM m r s → k + j = r 6 → j < n → ∃ m', fX11_keptWith_4 n (nI br) (nI acc) (nI k) m = some (nI (z_or (z_kb r s br) k j acc), m') ∧ Ak sN m m' ∧ KM m' r s := by
  have h6 := hO.1.2.2.2.2.1
  intro j
  induction j with
  | zero =>
    intro k n acc m h hk hn
    obtain ⟨n, rfl⟩ : ∃ n', n = n' + 1 := ⟨n - 1, by omega⟩
    refine ⟨m, ?_, Ak.rf m, h⟩
    rw [fX11_keptWith_4, z_or]
    simp (disch := omega) only [h.2.1 6 (by omega), cl2_so, cl1_so, ck_tr, zl_0, zl_1, zl_2, zl_3, zl_4, zl_5, zl_6, zl_7, zl_8, zl_9, zl_10, zl_11, zl_12, zl_15, zl_16, zl_20, zl_24, zl_25, zl_30, zl_31, zl_32, zl_33, zl_44, zl_48, zl_50, zl_57, zl_59, zl_60, zl_61, zl_62, zl_63, zl_64, zl_68, zl_97, zl_99, zl_100, zl_104, zl_108, zl_114, zl_120, zl_122, zl_126, zl_132, zl_180, zl_181, zl_186, zl_255, zl_900, zl_930, zl_1000, zl_1000000, nI_add, pk_mul, zs_sub, zs_lt, zs_le, zs_eq, zs_inb, zs_cl, zm_eq, zm_eq2, zm_lt, zm_le, mz_lt, mz_le, mm_eq, zs_bit, zs_or1, zs_div, zs_rem, ck_pos, if_pos, if_neg, true_or, or_true, true_and, and_true, false_or, or_false, false_and, and_false, not_true, not_false_iff, if_true, if_false, eq_self, Bool.false_eq_true, cl2_id, Bool.not_true, Bool.not_false]
  | succ j ih =>
    intro k n acc m h hk hn
    obtain ⟨n, rfl⟩ : ∃ n', n = n' + 1 := ⟨n - 1, by omega⟩
    obtain ⟨m1, e, g1, g2⟩ := h.isKept hO hb (i := k) (by omega)
    rw [fX11_keptWith_4, z_or]
    unfold fX11_keptWith_32
    cases hg : z_kb r s br k
    · obtain ⟨m2, f1, f2, f3⟩ := ih (k + 1) n (acc ||| 0) m1 g2 (by omega) (by omega)
      refine ⟨m2, ?_, g1.tr f2, f3⟩
      simp (disch := omega) only [h.2.1 6 (by omega), e, hg, nI_orN, cl2_so, cl1_so, ck_tr, zl_0, zl_1, zl_2, zl_3, zl_4, zl_5, zl_6, zl_7, zl_8, zl_9, zl_10, zl_11, zl_12, zl_15, zl_16, zl_20, zl_24, zl_25, zl_30, zl_31, zl_32, zl_33, zl_44, zl_48, zl_50, zl_57, zl_59, zl_60, zl_61, zl_62, zl_63, zl_64, zl_68, zl_97, zl_99, zl_100, zl_104, zl_108, zl_114, zl_120, zl_122, zl_126, zl_132, zl_180, zl_181, zl_186, zl_255, zl_900, zl_930, zl_1000, zl_1000000, nI_add, pk_mul, zs_sub, zs_lt, zs_le, zs_eq, zs_inb, zs_cl, zm_eq, zm_eq2, zm_lt, zm_le, mz_lt, mz_le, mm_eq, zs_bit, zs_or1, zs_div, zs_rem, ck_pos, if_pos, if_neg, true_or, or_true, true_and, and_true, false_or, or_false, false_and, and_false, not_true, not_false_iff, if_true, if_false, eq_self, Bool.false_eq_true, cl2_id, Bool.not_true, Bool.not_false]
      rw [f1, Nat.or_zero]
    · obtain ⟨m2, f1, f2, f3⟩ := ih (k + 1) n (acc ||| 2 ^ k) m1 g2 (by omega) (by omega)
      refine ⟨m2, ?_, g1.tr f2, f3⟩
      simp (disch := omega) only [h.2.1 6 (by omega), e, hg, cl2_so, cl1_so, ck_tr, zl_0, zl_1, zl_2, zl_3, zl_4, zl_5, zl_6, zl_7, zl_8, zl_9, zl_10, zl_11, zl_12, zl_15, zl_16, zl_20, zl_24, zl_25, zl_30, zl_31, zl_32, zl_33, zl_44, zl_48, zl_50, zl_57, zl_59, zl_60, zl_61, zl_62, zl_63, zl_64, zl_68, zl_97, zl_99, zl_100, zl_104, zl_108, zl_114, zl_120, zl_122, zl_126, zl_132, zl_180, zl_181, zl_186, zl_255, zl_900, zl_930, zl_1000, zl_1000000, nI_add, pk_mul, zs_sub, zs_lt, zs_le, zs_eq, zs_inb, zs_cl, zm_eq, zm_eq2, zm_lt, zm_le, mz_lt, mz_le, mm_eq, zs_bit, zs_or1, zs_div, zs_rem, ck_pos, if_pos, if_neg, true_or, or_true, true_and, and_true, false_or, or_false, false_and, and_false, not_true, not_false_iff, if_true, if_false, eq_self, Bool.false_eq_true, cl2_id, Bool.not_true, Bool.not_false]
      exact f1
theorem KM.keptWith (h : KM m r s) (hO : KO r s) {br : Nat} (hb : br < 1024) : ∃ m', fX11_keptWith (nI br) m = some (nI (z_or (z_kb r s br) 0 (r 6) 0), m') ∧ Ak sN m m' ∧ KM m' r s := by
  have h6 := hO.1.2.2.2.2.1
  exact kw4 hO hb (r 6) 0 FU 0 m h (by omega) (FU_pos (by omega))
theorem b_kept (hI : Inv m) (hC : JC m H r s) (hM : JM m H r s) (hO : JO H r s) : Both (fX10_kept x1) (fX11_kept x1) m := by
  cases hv : vN H (r 6) x1
  · refine ⟨-nI 1, 1, ?_, fun m1 h1 => ?_⟩
    · unfold fX10_kept
      simp (disch := omega) only [fX10_noWish_e hC, hv, cl2_so, cl1_so, ck_tr, zl_0, zl_1, zl_2, zl_3, zl_4, zl_5, zl_6, zl_7, zl_8, zl_9, zl_10, zl_11, zl_12, zl_15, zl_16, zl_20, zl_24, zl_25, zl_30, zl_31, zl_32, zl_33, zl_44, zl_48, zl_50, zl_57, zl_59, zl_60, zl_61, zl_62, zl_63, zl_64, zl_68, zl_97, zl_99, zl_100, zl_104, zl_108, zl_114, zl_120, zl_122, zl_126, zl_132, zl_180, zl_181, zl_186, zl_255, zl_900, zl_930, zl_1000, zl_1000000, nI_add, pk_mul, zs_sub, zs_lt, zs_le, zs_eq, zs_inb, zs_cl, zm_eq, zm_eq2, zm_lt, zm_le, mz_lt, mz_le, mm_eq, zs_bit, zs_or1, zs_div, zs_rem, ck_pos, if_pos, if_neg, true_or, or_true, true_and, and_true, false_or, or_false, false_and, and_false, not_true, not_false_iff, if_true, if_false, eq_self, Bool.false_eq_true, cl2_id, Bool.not_true, Bool.not_false]
      exact ansC_no 1 (Ak.rf m)
    · have hM1 := hM.ag (h1.agC.tr (gd_ak m1).agM)
      unfold fX11_kept fX11_kept_40
      simp (disch := omega) only [gd_e, fX11_isWish_e hM1 hO, hv, cl2_so, cl1_so, ck_tr, zl_0, zl_1, zl_2, zl_3, zl_4, zl_5, zl_6, zl_7, zl_8, zl_9, zl_10, zl_11, zl_12, zl_15, zl_16, zl_20, zl_24, zl_25, zl_30, zl_31, zl_32, zl_33, zl_44, zl_48, zl_50, zl_57, zl_59, zl_60, zl_61, zl_62, zl_63, zl_64, zl_68, zl_97, zl_99, zl_100, zl_104, zl_108, zl_114, zl_120, zl_122, zl_126, zl_132, zl_180, zl_181, zl_186, zl_255, zl_900, zl_930, zl_1000, zl_1000000, nI_add, pk_mul, zs_sub, zs_lt, zs_le, zs_eq, zs_inb, zs_cl, zm_eq, zm_eq2, zm_lt, zm_le, mz_lt, mz_le, mm_eq, zs_bit, zs_or1, zs_div, zs_rem, ck_pos, if_pos, if_neg, true_or, or_true, true_and, and_true, false_or, or_false, false_and, and_false, not_true, not_false_iff, if_true, if_false, eq_self, Bool.false_eq_true, cl2_id, Bool.not_true, Bool.not_false]
      exact ansM_no 1 (gd_ak m1)
  · have hH := vN_H hv
    subst hH
    have hK : KO r s := hO rfl
    have h6 := hK.1.2.2.2.2.1
    obtain ⟨i, hi, rfl⟩ := vN_in (hK.1.2.1 6 (by decide)) hv
    obtain ⟨m', e, g1, g2⟩ := (hC.kc hI).keptBits hK hK.s60
    have hlt : z_or (z_kb r s (s 60)) 0 (r 6) 0 < 16 := Nat.lt_of_lt_of_le (z_or_lt _ _) (Nat.le_trans (Nat.pow_le_pow_right (by decide) h6) (by decide))
    have ht : (z_or (z_kb r s (s 60)) 0 (r 6) 0).testBit i = z_kb r s (s 60) i := by
      rw [z_or_test, decide_eq_true (by omega)]
      simp
    refine ⟨nI (if z_kb r s (s 60) i then 1 else 0), 0, ?_, fun m1 h1 => ?_⟩
    · have e1 := (hC.kc hI).2.2.2.1.2.1
      unfold fX10_kept
      simp (disch := omega) only [fX10_noWish_e hC, hv, e1, e, ht, cl2_so, cl1_so, ck_tr, zl_0, zl_1, zl_2, zl_3, zl_4, zl_5, zl_6, zl_7, zl_8, zl_9, zl_10, zl_11, zl_12, zl_15, zl_16, zl_20, zl_24, zl_25, zl_30, zl_31, zl_32, zl_33, zl_44, zl_48, zl_50, zl_57, zl_59, zl_60, zl_61, zl_62, zl_63, zl_64, zl_68, zl_97, zl_99, zl_100, zl_104, zl_108, zl_114, zl_120, zl_122, zl_126, zl_132, zl_180, zl_181, zl_186, zl_255, zl_900, zl_930, zl_1000, zl_1000000, nI_add, pk_mul, zs_sub, zs_lt, zs_le, zs_eq, zs_inb, zs_cl, zm_eq, zm_eq2, zm_lt, zm_le, mz_lt, mz_le, mm_eq, zs_bit, zs_or1, zs_div, zs_rem, ck_pos, if_pos, if_neg, true_or, or_true, true_and, and_true, false_or, or_false, false_and, and_false, not_true, not_false_iff, if_true, if_false, eq_self, Bool.false_eq_true, cl2_id, Bool.not_true, Bool.not_false]
      exact ansC_ok _ g1
    · have hM1 := hM.ag (h1.agC.tr (gd_ak m1).agM)
      obtain ⟨m2, e2, f1, f2⟩ := hM1.km.isKept hK hK.s60 hi
      have e1 := hM1.km.2.2 60 (by omega)
      unfold fX11_kept fX11_kept_40
      cases hg : z_kb r s (s 60) i <;> simp (disch := omega) only [gd_e, fX11_isWish_e hM1 hO, hv, e1, e2, hg, cl2_so, cl1_so, ck_tr, zl_0, zl_1, zl_2, zl_3, zl_4, zl_5, zl_6, zl_7, zl_8, zl_9, zl_10, zl_11, zl_12, zl_15, zl_16, zl_20, zl_24, zl_25, zl_30, zl_31, zl_32, zl_33, zl_44, zl_48, zl_50, zl_57, zl_59, zl_60, zl_61, zl_62, zl_63, zl_64, zl_68, zl_97, zl_99, zl_100, zl_104, zl_108, zl_114, zl_120, zl_122, zl_126, zl_132, zl_180, zl_181, zl_186, zl_255, zl_900, zl_930, zl_1000, zl_1000000, nI_add, pk_mul, zs_sub, zs_lt, zs_le, zs_eq, zs_inb, zs_cl, zm_eq, zm_eq2, zm_lt, zm_le, mz_lt, mz_le, mm_eq, zs_bit, zs_or1, zs_div, zs_rem, ck_pos, if_pos, if_neg, true_or, or_true, true_and, and_true, false_or, or_false, false_and, and_false, not_true, not_false_iff, if_true, if_false, eq_self, Bool.false_eq_true, cl2_id, Bool.not_true, Bool.not_false] <;> exact ansN_ok _ f1
theorem b_allKept (hI : Inv m) (hC : JC m H r s) (hM : JM m H r s) (hO : JO H r s) : Both fX10_allKept fX11_allKept m := by
  cases H
  · refine ⟨-nI 1, 1, ?_, fun m1 h1 => ?_⟩
    · have e : m.1 0 4 = nI 0 := hC.1
      unfold fX10_allKept fX10_allKept_30
      simp (disch := omega) only [e, cl2_so, cl1_so, ck_tr, zl_0, zl_1, zl_2, zl_3, zl_4, zl_5, zl_6, zl_7, zl_8, zl_9, zl_10, zl_11, zl_12, zl_15, zl_16, zl_20, zl_24, zl_25, zl_30, zl_31, zl_32, zl_33, zl_44, zl_48, zl_50, zl_57, zl_59, zl_60, zl_61, zl_62, zl_63, zl_64, zl_68, zl_97, zl_99, zl_100, zl_104, zl_108, zl_114, zl_120, zl_122, zl_126, zl_132, zl_180, zl_181, zl_186, zl_255, zl_900, zl_930, zl_1000, zl_1000000, nI_add, pk_mul, zs_sub, zs_lt, zs_le, zs_eq, zs_inb, zs_cl, zm_eq, zm_eq2, zm_lt, zm_le, mz_lt, mz_le, mm_eq, zs_bit, zs_or1, zs_div, zs_rem, ck_pos, if_pos, if_neg, true_or, or_true, true_and, and_true, false_or, or_false, false_and, and_false, not_true, not_false_iff, if_true, if_false, eq_self, Bool.false_eq_true, cl2_id, Bool.not_true, Bool.not_false]
      exact ansC_no 1 (Ak.rf m)
    · have hM1 := hM.ag (h1.agC.tr (gd_ak m1).agM)
      have e : (gdM m1).1 138 14 = nI 0 := hM1.1
      unfold fX11_allKept fX11_allKept_30
      simp (disch := omega) only [gd_e, e, cl2_so, cl1_so, ck_tr, zl_0, zl_1, zl_2, zl_3, zl_4, zl_5, zl_6, zl_7, zl_8, zl_9, zl_10, zl_11, zl_12, zl_15, zl_16, zl_20, zl_24, zl_25, zl_30, zl_31, zl_32, zl_33, zl_44, zl_48, zl_50, zl_57, zl_59, zl_60, zl_61, zl_62, zl_63, zl_64, zl_68, zl_97, zl_99, zl_100, zl_104, zl_108, zl_114, zl_120, zl_122, zl_126, zl_132, zl_180, zl_181, zl_186, zl_255, zl_900, zl_930, zl_1000, zl_1000000, nI_add, pk_mul, zs_sub, zs_lt, zs_le, zs_eq, zs_inb, zs_cl, zm_eq, zm_eq2, zm_lt, zm_le, mz_lt, mz_le, mm_eq, zs_bit, zs_or1, zs_div, zs_rem, ck_pos, if_pos, if_neg, true_or, or_true, true_and, and_true, false_or, or_false, false_and, and_false, not_true, not_false_iff, if_true, if_false, eq_self, Bool.false_eq_true, cl2_id, Bool.not_true, Bool.not_false]
      exact ansM_no 1 (gd_ak m1)
  · have hK : KO r s := hO rfl
    obtain ⟨m', e, g1, g2⟩ := (hC.kc hI).keptBits hK hK.s60
    refine ⟨nI (z_or (z_kb r s (s 60)) 0 (r 6) 0), 0, ?_, fun m1 h1 => ?_⟩
    · have e1 := (hC.kc hI).2.2.2.1.2.1
      have e0 : m.1 0 4 = nI 1 := hC.1
      unfold fX10_allKept fX10_allKept_30
      simp (disch := omega) only [e0, e1, e, cl2_so, cl1_so, ck_tr, zl_0, zl_1, zl_2, zl_3, zl_4, zl_5, zl_6, zl_7, zl_8, zl_9, zl_10, zl_11, zl_12, zl_15, zl_16, zl_20, zl_24, zl_25, zl_30, zl_31, zl_32, zl_33, zl_44, zl_48, zl_50, zl_57, zl_59, zl_60, zl_61, zl_62, zl_63, zl_64, zl_68, zl_97, zl_99, zl_100, zl_104, zl_108, zl_114, zl_120, zl_122, zl_126, zl_132, zl_180, zl_181, zl_186, zl_255, zl_900, zl_930, zl_1000, zl_1000000, nI_add, pk_mul, zs_sub, zs_lt, zs_le, zs_eq, zs_inb, zs_cl, zm_eq, zm_eq2, zm_lt, zm_le, mz_lt, mz_le, mm_eq, zs_bit, zs_or1, zs_div, zs_rem, ck_pos, if_pos, if_neg, true_or, or_true, true_and, and_true, false_or, or_false, false_and, and_false, not_true, not_false_iff, if_true, if_false, eq_self, Bool.false_eq_true, cl2_id, Bool.not_true, Bool.not_false]
      exact ansC_ok _ g1
    · have hM1 := hM.ag (h1.agC.tr (gd_ak m1).agM)
      obtain ⟨m2, e2, f1, f2⟩ := hM1.km.keptWith hK hK.s60
      have e1 := hM1.km.2.2 60 (by omega)
      have e0 : (gdM m1).1 138 14 = nI 1 := hM1.1
      unfold fX11_allKept fX11_allKept_30
      simp (disch := omega) only [gd_e, e0, e1, e2, cl2_so, cl1_so, ck_tr, zl_0, zl_1, zl_2, zl_3, zl_4, zl_5, zl_6, zl_7, zl_8, zl_9, zl_10, zl_11, zl_12, zl_15, zl_16, zl_20, zl_24, zl_25, zl_30, zl_31, zl_32, zl_33, zl_44, zl_48, zl_50, zl_57, zl_59, zl_60, zl_61, zl_62, zl_63, zl_64, zl_68, zl_97, zl_99, zl_100, zl_104, zl_108, zl_114, zl_120, zl_122, zl_126, zl_132, zl_180, zl_181, zl_186, zl_255, zl_900, zl_930, zl_1000, zl_1000000, nI_add, pk_mul, zs_sub, zs_lt, zs_le, zs_eq, zs_inb, zs_cl, zm_eq, zm_eq2, zm_lt, zm_le, mz_lt, mz_le, mm_eq, zs_bit, zs_or1, zs_div, zs_rem, ck_pos, if_pos, if_neg, true_or, or_true, true_and, and_true, false_or, or_false, false_and, and_false, not_true, not_false_iff, if_true, if_false, eq_self, Bool.false_eq_true, cl2_id, Bool.not_true, Bool.not_false]
      exact ansN_ok _ f1
theorem or_lt {a k : Nat} (ha : a < 1024) (hk : k < 10) : a ||| 2 ^ k < 1024 := Nat.or_lt_two_pow (n := 10) ha (Nat.pow_lt_pow_right (by decide) hk)
theorem b_loses (hI : Inv m) (hC : JC m H r s) (hM : JM m H r s) (hO : JO H r s) : Both (fX10_loses x1) (fX11_loses x1) m := by
  cases hv : vN H (r 0) x1
  · refine ⟨-nI 1, 1, ?_, fun m1 h1 => ?_⟩
    · unfold fX10_loses
      simp (disch := omega) only [fX10_noRib_e hC, hv, cl2_so, cl1_so, ck_tr, zl_0, zl_1, zl_2, zl_3, zl_4, zl_5, zl_6, zl_7, zl_8, zl_9, zl_10, zl_11, zl_12, zl_15, zl_16, zl_20, zl_24, zl_25, zl_30, zl_31, zl_32, zl_33, zl_44, zl_48, zl_50, zl_57, zl_59, zl_60, zl_61, zl_62, zl_63, zl_64, zl_68, zl_97, zl_99, zl_100, zl_104, zl_108, zl_114, zl_120, zl_122, zl_126, zl_132, zl_180, zl_181, zl_186, zl_255, zl_900, zl_930, zl_1000, zl_1000000, nI_add, pk_mul, zs_sub, zs_lt, zs_le, zs_eq, zs_inb, zs_cl, zm_eq, zm_eq2, zm_lt, zm_le, mz_lt, mz_le, mm_eq, zs_bit, zs_or1, zs_div, zs_rem, ck_pos, if_pos, if_neg, true_or, or_true, true_and, and_true, false_or, or_false, false_and, and_false, not_true, not_false_iff, if_true, if_false, eq_self, Bool.false_eq_true, cl2_id, Bool.not_true, Bool.not_false]
      exact ansC_no 1 (Ak.rf m)
    · have hM1 := hM.ag (h1.agC.tr (gd_ak m1).agM)
      unfold fX11_loses
      simp (disch := omega) only [gd_e, fX11_isRib_e hM1 hO, hv, cl2_so, cl1_so, ck_tr, zl_0, zl_1, zl_2, zl_3, zl_4, zl_5, zl_6, zl_7, zl_8, zl_9, zl_10, zl_11, zl_12, zl_15, zl_16, zl_20, zl_24, zl_25, zl_30, zl_31, zl_32, zl_33, zl_44, zl_48, zl_50, zl_57, zl_59, zl_60, zl_61, zl_62, zl_63, zl_64, zl_68, zl_97, zl_99, zl_100, zl_104, zl_108, zl_114, zl_120, zl_122, zl_126, zl_132, zl_180, zl_181, zl_186, zl_255, zl_900, zl_930, zl_1000, zl_1000000, nI_add, pk_mul, zs_sub, zs_lt, zs_le, zs_eq, zs_inb, zs_cl, zm_eq, zm_eq2, zm_lt, zm_le, mz_lt, mz_le, mm_eq, zs_bit, zs_or1, zs_div, zs_rem, ck_pos, if_pos, if_neg, true_or, or_true, true_and, and_true, false_or, or_false, false_and, and_false, not_true, not_false_iff, if_true, if_false, eq_self, Bool.false_eq_true, cl2_id, Bool.not_true, Bool.not_false]
      exact ansM_no 1 (gd_ak m1)
  · have hH := vN_H hv
    subst hH
    have hK : KO r s := hO rfl
    obtain ⟨rib, b, rfl⟩ := vN_in (hK.1.2.1 0 (by decide)) hv
    obtain ⟨f0, f1, f2, f3, f4⟩ := hK.1.1
    have h60 := hK.s60
    have hor := or_lt (k := rib) h60 (by omega)
    have el := fX5_lacksRib_e (k := rib) (hC.2 rfl).2.2.1 h60 (by omega)
    have e1 := (hC.kc hI).2.2.2.1.2.1
    cases hb : (s 60).testBit rib
    · obtain ⟨m', e, g1, g2⟩ := (hC.kc hI).keptBits hK h60
      obtain ⟨m'', e', g3, g4⟩ := g2.keptBits hK hor
      have e1' := g2.2.2.2.1.2.1
      refine ⟨nI (z_or (z_kb r s (s 60)) 0 (r 6) 0) &&& (nI (z_or (z_kb r s (s 60 ||| 2 ^ rib)) 0 (r 6) 0) ^^^ -nI 1), 0, ?_, fun m1 h1 => ?_⟩
      · unfold fX10_loses
        simp (disch := omega) only [fX10_noRib_e hC, hv, el, hb, e1, e, e1', e', cl2_so, cl1_so, ck_tr, zl_0, zl_1, zl_2, zl_3, zl_4, zl_5, zl_6, zl_7, zl_8, zl_9, zl_10, zl_11, zl_12, zl_15, zl_16, zl_20, zl_24, zl_25, zl_30, zl_31, zl_32, zl_33, zl_44, zl_48, zl_50, zl_57, zl_59, zl_60, zl_61, zl_62, zl_63, zl_64, zl_68, zl_97, zl_99, zl_100, zl_104, zl_108, zl_114, zl_120, zl_122, zl_126, zl_132, zl_180, zl_181, zl_186, zl_255, zl_900, zl_930, zl_1000, zl_1000000, nI_add, pk_mul, zs_sub, zs_lt, zs_le, zs_eq, zs_inb, zs_cl, zm_eq, zm_eq2, zm_lt, zm_le, mz_lt, mz_le, mm_eq, zs_bit, zs_or1, zs_div, zs_rem, ck_pos, if_pos, if_neg, true_or, or_true, true_and, and_true, false_or, or_false, false_and, and_false, not_true, not_false_iff, if_true, if_false, eq_self, Bool.false_eq_true, cl2_id, Bool.not_true, Bool.not_false]
        exact ansC_ok _ (g1.tr g3)
      · have hM1 := hM.ag (h1.agC.tr (gd_ak m1).agM)
        have h3 := hM1.km.2.2 60 (by omega)
        have h2 := fX11_has_e (br := s 60) (k := rib) (by omega) (by omega) (gdM m1)
        obtain ⟨m2, e2, f1, f2⟩ := hM1.km.keptWith hK h60
        obtain ⟨m3, e3, f3, f4⟩ := f2.keptWith hK hor
        have h3' := f2.2.2 60 (by omega)
        unfold fX11_loses
        simp (disch := omega) only [gd_e, fX11_isRib_e hM1 hO, hv, h3, h2, hb, e2, h3', e3, cl2_so, cl1_so, ck_tr, zl_0, zl_1, zl_2, zl_3, zl_4, zl_5, zl_6, zl_7, zl_8, zl_9, zl_10, zl_11, zl_12, zl_15, zl_16, zl_20, zl_24, zl_25, zl_30, zl_31, zl_32, zl_33, zl_44, zl_48, zl_50, zl_57, zl_59, zl_60, zl_61, zl_62, zl_63, zl_64, zl_68, zl_97, zl_99, zl_100, zl_104, zl_108, zl_114, zl_120, zl_122, zl_126, zl_132, zl_180, zl_181, zl_186, zl_255, zl_900, zl_930, zl_1000, zl_1000000, nI_add, pk_mul, zs_sub, zs_lt, zs_le, zs_eq, zs_inb, zs_cl, zm_eq, zm_eq2, zm_lt, zm_le, mz_lt, mz_le, mm_eq, zs_bit, zs_or1, zs_div, zs_rem, ck_pos, if_pos, if_neg, true_or, or_true, true_and, and_true, false_or, or_false, false_and, and_false, not_true, not_false_iff, if_true, if_false, eq_self, Bool.false_eq_true, cl2_id, Bool.not_true, Bool.not_false]
        exact ansN_ok _ (f1.tr f3)
    · refine ⟨-nI 1, 5, ?_, fun m1 h1 => ?_⟩
      · unfold fX10_loses
        simp (disch := omega) only [fX10_noRib_e hC, hv, el, hb, cl2_so, cl1_so, ck_tr, zl_0, zl_1, zl_2, zl_3, zl_4, zl_5, zl_6, zl_7, zl_8, zl_9, zl_10, zl_11, zl_12, zl_15, zl_16, zl_20, zl_24, zl_25, zl_30, zl_31, zl_32, zl_33, zl_44, zl_48, zl_50, zl_57, zl_59, zl_60, zl_61, zl_62, zl_63, zl_64, zl_68, zl_97, zl_99, zl_100, zl_104, zl_108, zl_114, zl_120, zl_122, zl_126, zl_132, zl_180, zl_181, zl_186, zl_255, zl_900, zl_930, zl_1000, zl_1000000, nI_add, pk_mul, zs_sub, zs_lt, zs_le, zs_eq, zs_inb, zs_cl, zm_eq, zm_eq2, zm_lt, zm_le, mz_lt, mz_le, mm_eq, zs_bit, zs_or1, zs_div, zs_rem, ck_pos, if_pos, if_neg, true_or, or_true, true_and, and_true, false_or, or_false, false_and, and_false, not_true, not_false_iff, if_true, if_false, eq_self, Bool.false_eq_true, cl2_id, Bool.not_true, Bool.not_false]
        exact ansC_no 5 (Ak.rf m)
      · have hM1 := hM.ag (h1.agC.tr (gd_ak m1).agM)
        have h3 := hM1.km.2.2 60 (by omega)
        have h2 := fX11_has_e (br := s 60) (k := rib) (by omega) (by omega) (gdM m1)
        unfold fX11_loses
        simp (disch := omega) only [gd_e, fX11_isRib_e hM1 hO, hv, h3, h2, hb, cl2_so, cl1_so, ck_tr, zl_0, zl_1, zl_2, zl_3, zl_4, zl_5, zl_6, zl_7, zl_8, zl_9, zl_10, zl_11, zl_12, zl_15, zl_16, zl_20, zl_24, zl_25, zl_30, zl_31, zl_32, zl_33, zl_44, zl_48, zl_50, zl_57, zl_59, zl_60, zl_61, zl_62, zl_63, zl_64, zl_68, zl_97, zl_99, zl_100, zl_104, zl_108, zl_114, zl_120, zl_122, zl_126, zl_132, zl_180, zl_181, zl_186, zl_255, zl_900, zl_930, zl_1000, zl_1000000, nI_add, pk_mul, zs_sub, zs_lt, zs_le, zs_eq, zs_inb, zs_cl, zm_eq, zm_eq2, zm_lt, zm_le, mz_lt, mz_le, mm_eq, zs_bit, zs_or1, zs_div, zs_rem, ck_pos, if_pos, if_neg, true_or, or_true, true_and, and_true, false_or, or_false, false_and, and_false, not_true, not_false_iff, if_true, if_false, eq_self, Bool.false_eq_true, cl2_id, Bool.not_true, Bool.not_false]
        exact ansM_no 5 (gd_ak m1)
/-! flutters -/
theorem KC.beat (h : KC m t r s) {b : Nat} (hb : b < r 8) : m.1 (t + 6) b = nI (r (180 + b)) := h.2.2.1.2.2.2.2.2 b hb
theorem fl35 (hO : KO r s) {w : Nat} (hw : w < r 5) : ∀ j k n acc (m : Me), KC m t r s → k + j = r 8 → j < n → AnsC (fX10_flutters_35 n (nI w) (nI acc) (nI k) m) (nI (z_or (fun b => rd (z_word r w) (zT r s 0 (r (180 + b)) (s 60))) k j acc)) 0 m := by
  have h5 := hO.1.2.2.2.1
  have h8 := hO.1.2.2.2.2.2.2.1
  intro j
  induction j with
  | zero =>
    intro k n acc m h hk hn
    obtain ⟨n, rfl⟩ : ∃ n', n = n' + 1 := ⟨n - 1, by omega⟩
    have e13 := h.2.2.1.2.1.2.2.2.2
    rw [fX10_flutters_35, z_or]
    simp (disch := omega) only [h.1, e13, cl2_so, cl1_so, ck_tr, zl_0, zl_1, zl_2, zl_3, zl_4, zl_5, zl_6, zl_7, zl_8, zl_9, zl_10, zl_11, zl_12, zl_15, zl_16, zl_20, zl_24, zl_25, zl_30, zl_31, zl_32, zl_33, zl_44, zl_48, zl_50, zl_57, zl_59, zl_60, zl_61, zl_62, zl_63, zl_64, zl_68, zl_97, zl_99, zl_100, zl_104, zl_108, zl_114, zl_120, zl_122, zl_126, zl_132, zl_180, zl_181, zl_186, zl_255, zl_900, zl_930, zl_1000, zl_1000000, nI_add, pk_mul, zs_sub, zs_lt, zs_le, zs_eq, zs_inb, zs_cl, zm_eq, zm_eq2, zm_lt, zm_le, mz_lt, mz_le, mm_eq, zs_bit, zs_or1, zs_div, zs_rem, ck_pos, if_pos, if_neg, true_or, or_true, true_and, and_true, false_or, or_false, false_and, and_false, not_true, not_false_iff, if_true, if_false, eq_self, Bool.false_eq_true, cl2_id, Bool.not_true, Bool.not_false]
    exact ansC_ok _ (Ak.rf m)
  | succ j ih =>
    intro k n acc m h hk hn
    obtain ⟨n, rfl⟩ : ∃ n', n = n' + 1 := ⟨n - 1, by omega⟩
    have e13 := h.2.2.1.2.1.2.2.2.2
    have ht := h.tt
    have eb := h.beat (b := k) (by omega)
    have ob := hO.1.2.2.2.2.2.2.2.2.2.2.1 k (by omega)
    obtain ⟨m1, e, g1, g2, g3, -⟩ := h.lookAt hO (side := 0) (op := r (180 + k)) (by omega) ob
    have hwk := word_ok hO.1 hw
    have e2 := fX7_isRead_e g3 (g2.word hw) hwk.2.1 hwk.1 (zT_30 hO _ ob) hwk.2.2 (zT_k hO _ (by omega) ob)
    have e3 := rdB_e (z_word r w) (zT r s 0 (r (180 + k)) (s 60))
    unfold rdB at e3
    rw [e3] at e2
    rw [fX10_flutters_35, z_or]
    unfold fX10_flutters_85
    cases hg : rd (z_word r w) (zT r s 0 (r (180 + k)) (s 60))
    · obtain ⟨m2, f1, f2, f3⟩ := ih (k + 1) n acc m1 g2 (by omega) (by omega)
      refine ⟨m2, ?_, g1.tr f2, f3⟩
      simp (disch := omega) only [h.1, e13, eb, e, g2.1, e2, hg, cl2_so, cl1_so, ck_tr, zl_0, zl_1, zl_2, zl_3, zl_4, zl_5, zl_6, zl_7, zl_8, zl_9, zl_10, zl_11, zl_12, zl_15, zl_16, zl_20, zl_24, zl_25, zl_30, zl_31, zl_32, zl_33, zl_44, zl_48, zl_50, zl_57, zl_59, zl_60, zl_61, zl_62, zl_63, zl_64, zl_68, zl_97, zl_99, zl_100, zl_104, zl_108, zl_114, zl_120, zl_122, zl_126, zl_132, zl_180, zl_181, zl_186, zl_255, zl_900, zl_930, zl_1000, zl_1000000, nI_add, pk_mul, zs_sub, zs_lt, zs_le, zs_eq, zs_inb, zs_cl, zm_eq, zm_eq2, zm_lt, zm_le, mz_lt, mz_le, mm_eq, zs_bit, zs_or1, zs_div, zs_rem, ck_pos, if_pos, if_neg, true_or, or_true, true_and, and_true, false_or, or_false, false_and, and_false, not_true, not_false_iff, if_true, if_false, eq_self, Bool.false_eq_true, cl2_id, Bool.not_true, Bool.not_false]
      exact f1
    · obtain ⟨m2, f1, f2, f3⟩ := ih (k + 1) n (acc ||| 2 ^ k) m1 g2 (by omega) (by omega)
      refine ⟨m2, ?_, g1.tr f2, f3⟩
      simp (disch := omega) only [h.1, e13, eb, e, g2.1, e2, hg, cl2_so, cl1_so, ck_tr, zl_0, zl_1, zl_2, zl_3, zl_4, zl_5, zl_6, zl_7, zl_8, zl_9, zl_10, zl_11, zl_12, zl_15, zl_16, zl_20, zl_24, zl_25, zl_30, zl_31, zl_32, zl_33, zl_44, zl_48, zl_50, zl_57, zl_59, zl_60, zl_61, zl_62, zl_63, zl_64, zl_68, zl_97, zl_99, zl_100, zl_104, zl_108, zl_114, zl_120, zl_122, zl_126, zl_132, zl_180, zl_181, zl_186, zl_255, zl_900, zl_930, zl_1000, zl_1000000, nI_add, pk_mul, zs_sub, zs_lt, zs_le, zs_eq, zs_inb, zs_cl, zm_eq, zm_eq2, zm_lt, zm_le, mz_lt, mz_le, mm_eq, zs_bit, zs_or1, zs_div, zs_rem, ck_pos, if_pos, if_neg, true_or, or_true, true_and, and_true, false_or, or_false, false_and, and_false, not_true, not_false_iff, if_true, if_false, eq_self, Bool.false_eq_true, cl2_id, Bool.not_true, Bool.not_false]
      exact f1
theorem fl39 (hO : KO r s) {w : Nat} (hw : w < r 5) : ∀ j k n acc (m : Me), KM m r s → k + j = r 8 → j < n → ∃ m', fX11_flutters_39 n (nI w) (nI acc) (nI k) m = some (nI (z_or (fun b => rd (z_word r w) (zT r s 0 (r (180 + b)) (s 60))) k j acc), m') ∧ Ak sN m m' := by
  have h5 := hO.1.2.2.2.1
  have h8 := hO.1.2.2.2.2.2.2.1
  intro j
  induction j with
  | zero =>
    intro k n acc m h hk hn
    obtain ⟨n, rfl⟩ : ∃ n', n = n' + 1 := ⟨n - 1, by omega⟩
    refine ⟨m, ?_, Ak.rf m⟩
    rw [fX11_flutters_39, z_or]
    simp (disch := omega) only [h.2.1 8 (by omega), cl2_so, cl1_so, ck_tr, zl_0, zl_1, zl_2, zl_3, zl_4, zl_5, zl_6, zl_7, zl_8, zl_9, zl_10, zl_11, zl_12, zl_15, zl_16, zl_20, zl_24, zl_25, zl_30, zl_31, zl_32, zl_33, zl_44, zl_48, zl_50, zl_57, zl_59, zl_60, zl_61, zl_62, zl_63, zl_64, zl_68, zl_97, zl_99, zl_100, zl_104, zl_108, zl_114, zl_120, zl_122, zl_126, zl_132, zl_180, zl_181, zl_186, zl_255, zl_900, zl_930, zl_1000, zl_1000000, nI_add, pk_mul, zs_sub, zs_lt, zs_le, zs_eq, zs_inb, zs_cl, zm_eq, zm_eq2, zm_lt, zm_le, mz_lt, mz_le, mm_eq, zs_bit, zs_or1, zs_div, zs_rem, ck_pos, if_pos, if_neg, true_or, or_true, true_and, and_true, false_or, or_false, false_and, and_false, not_true, not_false_iff, if_true, if_false, eq_self, Bool.false_eq_true, cl2_id, Bool.not_true, Bool.not_false]
  | succ j ih =>
    intro k n acc m h hk hn
    obtain ⟨n, rfl⟩ : ∃ n', n = n' + 1 := ⟨n - 1, by omega⟩
    have ob := hO.1.2.2.2.2.2.2.2.2.2.2.1 k (by omega)
    obtain ⟨m1, e, g1, g2, -⟩ := h.readsWord hO hw (side := 0) (op := r (180 + k)) (by omega) ob
    have eb := h.2.1 (180 + k) (by omega)
    rw [fX11_flutters_39, z_or]
    unfold fX11_flutters_77
    have hbd : z_rdN (z_word r w) (zT r s 0 (r (180 + k)) (s 60)) ≤ 30 := Nat.le_trans (z_ct_le _ _ _) (zT_30 hO _ ob)
    cases hg : rd (z_word r w) (zT r s 0 (r (180 + k)) (s 60))
    · have h0 := rd_0 hg
      obtain ⟨m2, f1, f2⟩ := ih (k + 1) n (acc ||| 0) m1 g2 (by omega) (by omega)
      refine ⟨m2, ?_, g1.tr f2⟩
      simp (disch := omega) only [h.2.1 8 (by omega), eb, e, h0, nI_orN, cl2_so, cl1_so, ck_tr, zl_0, zl_1, zl_2, zl_3, zl_4, zl_5, zl_6, zl_7, zl_8, zl_9, zl_10, zl_11, zl_12, zl_15, zl_16, zl_20, zl_24, zl_25, zl_30, zl_31, zl_32, zl_33, zl_44, zl_48, zl_50, zl_57, zl_59, zl_60, zl_61, zl_62, zl_63, zl_64, zl_68, zl_97, zl_99, zl_100, zl_104, zl_108, zl_114, zl_120, zl_122, zl_126, zl_132, zl_180, zl_181, zl_186, zl_255, zl_900, zl_930, zl_1000, zl_1000000, nI_add, pk_mul, zs_sub, zs_lt, zs_le, zs_eq, zs_inb, zs_cl, zm_eq, zm_eq2, zm_lt, zm_le, mz_lt, mz_le, mm_eq, zs_bit, zs_or1, zs_div, zs_rem, ck_pos, if_pos, if_neg, true_or, or_true, true_and, and_true, false_or, or_false, false_and, and_false, not_true, not_false_iff, if_true, if_false, eq_self, Bool.false_eq_true, cl2_id, Bool.not_true, Bool.not_false]
      rw [f1, Nat.or_zero]
    · have h0 := rd_1 hg
      obtain ⟨m2, f1, f2⟩ := ih (k + 1) n (acc ||| 2 ^ k) m1 g2 (by omega) (by omega)
      refine ⟨m2, ?_, g1.tr f2⟩
      simp (disch := omega) only [h.2.1 8 (by omega), eb, e, cl2_so, cl1_so, ck_tr, zl_0, zl_1, zl_2, zl_3, zl_4, zl_5, zl_6, zl_7, zl_8, zl_9, zl_10, zl_11, zl_12, zl_15, zl_16, zl_20, zl_24, zl_25, zl_30, zl_31, zl_32, zl_33, zl_44, zl_48, zl_50, zl_57, zl_59, zl_60, zl_61, zl_62, zl_63, zl_64, zl_68, zl_97, zl_99, zl_100, zl_104, zl_108, zl_114, zl_120, zl_122, zl_126, zl_132, zl_180, zl_181, zl_186, zl_255, zl_900, zl_930, zl_1000, zl_1000000, nI_add, pk_mul, zs_sub, zs_lt, zs_le, zs_eq, zs_inb, zs_cl, zm_eq, zm_eq2, zm_lt, zm_le, mz_lt, mz_le, mm_eq, zs_bit, zs_or1, zs_div, zs_rem, ck_pos, if_pos, if_neg, true_or, or_true, true_and, and_true, false_or, or_false, false_and, and_false, not_true, not_false_iff, if_true, if_false, eq_self, Bool.false_eq_true, cl2_id, Bool.not_true, Bool.not_false]
      exact f1
theorem b_flutters (hI : Inv m) (hC : JC m H r s) (hM : JM m H r s) (hO : JO H r s) : Both (fX10_flutters x1) (fX11_flutters x1) m := by
  cases hv : vN H (r 5) x1
  · refine ⟨-nI 1, 1, ?_, fun m1 h1 => ?_⟩
    · unfold fX10_flutters
      simp (disch := omega) only [fX10_noWord_e hC, hv, cl2_so, cl1_so, ck_tr, zl_0, zl_1, zl_2, zl_3, zl_4, zl_5, zl_6, zl_7, zl_8, zl_9, zl_10, zl_11, zl_12, zl_15, zl_16, zl_20, zl_24, zl_25, zl_30, zl_31, zl_32, zl_33, zl_44, zl_48, zl_50, zl_57, zl_59, zl_60, zl_61, zl_62, zl_63, zl_64, zl_68, zl_97, zl_99, zl_100, zl_104, zl_108, zl_114, zl_120, zl_122, zl_126, zl_132, zl_180, zl_181, zl_186, zl_255, zl_900, zl_930, zl_1000, zl_1000000, nI_add, pk_mul, zs_sub, zs_lt, zs_le, zs_eq, zs_inb, zs_cl, zm_eq, zm_eq2, zm_lt, zm_le, mz_lt, mz_le, mm_eq, zs_bit, zs_or1, zs_div, zs_rem, ck_pos, if_pos, if_neg, true_or, or_true, true_and, and_true, false_or, or_false, false_and, and_false, not_true, not_false_iff, if_true, if_false, eq_self, Bool.false_eq_true, cl2_id, Bool.not_true, Bool.not_false]
      exact ansC_no 1 (Ak.rf m)
    · have hM1 := hM.ag (h1.agC.tr (gd_ak m1).agM)
      unfold fX11_flutters
      simp (disch := omega) only [gd_e, fX11_isWordThere_e hM1 hO, hv, cl2_so, cl1_so, ck_tr, zl_0, zl_1, zl_2, zl_3, zl_4, zl_5, zl_6, zl_7, zl_8, zl_9, zl_10, zl_11, zl_12, zl_15, zl_16, zl_20, zl_24, zl_25, zl_30, zl_31, zl_32, zl_33, zl_44, zl_48, zl_50, zl_57, zl_59, zl_60, zl_61, zl_62, zl_63, zl_64, zl_68, zl_97, zl_99, zl_100, zl_104, zl_108, zl_114, zl_120, zl_122, zl_126, zl_132, zl_180, zl_181, zl_186, zl_255, zl_900, zl_930, zl_1000, zl_1000000, nI_add, pk_mul, zs_sub, zs_lt, zs_le, zs_eq, zs_inb, zs_cl, zm_eq, zm_eq2, zm_lt, zm_le, mz_lt, mz_le, mm_eq, zs_bit, zs_or1, zs_div, zs_rem, ck_pos, if_pos, if_neg, true_or, or_true, true_and, and_true, false_or, or_false, false_and, and_false, not_true, not_false_iff, if_true, if_false, eq_self, Bool.false_eq_true, cl2_id, Bool.not_true, Bool.not_false]
      exact ansM_no 1 (gd_ak m1)
  · have hH := vN_H hv
    subst hH
    have hK : KO r s := hO rfl
    obtain ⟨w, hw, rfl⟩ := vN_in (hK.1.2.1 5 (by decide)) hv
    have h8 := hK.1.2.2.2.2.2.2.1
    have e13 := (hC.kc hI).2.2.1.2.1.2.2.2.2
    by_cases h0 : r 8 = 0
    · refine ⟨-nI 1, 6, ?_, fun m1 h1 => ?_⟩
      · unfold fX10_flutters
        simp (disch := omega) only [fX10_noWord_e hC, hv, e13, h0, cl2_so, cl1_so, ck_tr, zl_0, zl_1, zl_2, zl_3, zl_4, zl_5, zl_6, zl_7, zl_8, zl_9, zl_10, zl_11, zl_12, zl_15, zl_16, zl_20, zl_24, zl_25, zl_30, zl_31, zl_32, zl_33, zl_44, zl_48, zl_50, zl_57, zl_59, zl_60, zl_61, zl_62, zl_63, zl_64, zl_68, zl_97, zl_99, zl_100, zl_104, zl_108, zl_114, zl_120, zl_122, zl_126, zl_132, zl_180, zl_181, zl_186, zl_255, zl_900, zl_930, zl_1000, zl_1000000, nI_add, pk_mul, zs_sub, zs_lt, zs_le, zs_eq, zs_inb, zs_cl, zm_eq, zm_eq2, zm_lt, zm_le, mz_lt, mz_le, mm_eq, zs_bit, zs_or1, zs_div, zs_rem, ck_pos, if_pos, if_neg, true_or, or_true, true_and, and_true, false_or, or_false, false_and, and_false, not_true, not_false_iff, if_true, if_false, eq_self, Bool.false_eq_true, cl2_id, Bool.not_true, Bool.not_false]
        exact ansC_no 6 (Ak.rf m)
      · have hM1 := hM.ag (h1.agC.tr (gd_ak m1).agM)
        unfold fX11_flutters
        simp (disch := omega) only [gd_e, fX11_isWordThere_e hM1 hO, hv, hM1.km.2.1 8 (by omega), h0, cl2_so, cl1_so, ck_tr, zl_0, zl_1, zl_2, zl_3, zl_4, zl_5, zl_6, zl_7, zl_8, zl_9, zl_10, zl_11, zl_12, zl_15, zl_16, zl_20, zl_24, zl_25, zl_30, zl_31, zl_32, zl_33, zl_44, zl_48, zl_50, zl_57, zl_59, zl_60, zl_61, zl_62, zl_63, zl_64, zl_68, zl_97, zl_99, zl_100, zl_104, zl_108, zl_114, zl_120, zl_122, zl_126, zl_132, zl_180, zl_181, zl_186, zl_255, zl_900, zl_930, zl_1000, zl_1000000, nI_add, pk_mul, zs_sub, zs_lt, zs_le, zs_eq, zs_inb, zs_cl, zm_eq, zm_eq2, zm_lt, zm_le, mz_lt, mz_le, mm_eq, zs_bit, zs_or1, zs_div, zs_rem, ck_pos, if_pos, if_neg, true_or, or_true, true_and, and_true, false_or, or_false, false_and, and_false, not_true, not_false_iff, if_true, if_false, eq_self, Bool.false_eq_true, cl2_id, Bool.not_true, Bool.not_false]
        exact ansM_no 6 (gd_ak m1)
    · refine ⟨nI (z_or (fun b => rd (z_word r w) (zT r s 0 (r (180 + b)) (s 60))) 0 (r 8) 0), 0, ?_, fun m1 h1 => ?_⟩
      · unfold fX10_flutters
        simp (disch := omega) only [fX10_noWord_e hC, hv, e13, cl2_so, cl1_so, ck_tr, zl_0, zl_1, zl_2, zl_3, zl_4, zl_5, zl_6, zl_7, zl_8, zl_9, zl_10, zl_11, zl_12, zl_15, zl_16, zl_20, zl_24, zl_25, zl_30, zl_31, zl_32, zl_33, zl_44, zl_48, zl_50, zl_57, zl_59, zl_60, zl_61, zl_62, zl_63, zl_64, zl_68, zl_97, zl_99, zl_100, zl_104, zl_108, zl_114, zl_120, zl_122, zl_126, zl_132, zl_180, zl_181, zl_186, zl_255, zl_900, zl_930, zl_1000, zl_1000000, nI_add, pk_mul, zs_sub, zs_lt, zs_le, zs_eq, zs_inb, zs_cl, zm_eq, zm_eq2, zm_lt, zm_le, mz_lt, mz_le, mm_eq, zs_bit, zs_or1, zs_div, zs_rem, ck_pos, if_pos, if_neg, true_or, or_true, true_and, and_true, false_or, or_false, false_and, and_false, not_true, not_false_iff, if_true, if_false, eq_self, Bool.false_eq_true, cl2_id, Bool.not_true, Bool.not_false]
        exact fl35 hK hw (r 8) 0 FU 0 m (hC.kc hI) (by omega) (FU_pos (by omega))
      · have hM1 := hM.ag (h1.agC.tr (gd_ak m1).agM)
        obtain ⟨m2, e2, f1⟩ := fl39 hK hw (r 8) 0 FU 0 _ hM1.km (by omega) (FU_pos (by omega))
        unfold fX11_flutters
        simp (disch := omega) only [gd_e, fX11_isWordThere_e hM1 hO, hv, hM1.km.2.1 8 (by omega), e2, cl2_so, cl1_so, ck_tr, zl_0, zl_1, zl_2, zl_3, zl_4, zl_5, zl_6, zl_7, zl_8, zl_9, zl_10, zl_11, zl_12, zl_15, zl_16, zl_20, zl_24, zl_25, zl_30, zl_31, zl_32, zl_33, zl_44, zl_48, zl_50, zl_57, zl_59, zl_60, zl_61, zl_62, zl_63, zl_64, zl_68, zl_97, zl_99, zl_100, zl_104, zl_108, zl_114, zl_120, zl_122, zl_126, zl_132, zl_180, zl_181, zl_186, zl_255, zl_900, zl_930, zl_1000, zl_1000000, nI_add, pk_mul, zs_sub, zs_lt, zs_le, zs_eq, zs_inb, zs_cl, zm_eq, zm_eq2, zm_lt, zm_le, mz_lt, mz_le, mm_eq, zs_bit, zs_or1, zs_div, zs_rem, ck_pos, if_pos, if_neg, true_or, or_true, true_and, and_true, false_or, or_false, false_and, and_false, not_true, not_false_iff, if_true, if_false, eq_self, Bool.false_eq_true, cl2_id, Bool.not_true, Bool.not_false]
        exact ansN_ok _ f1
end C4
