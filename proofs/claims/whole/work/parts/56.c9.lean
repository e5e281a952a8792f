/-! treaty, sever -/
def tyv (g : Nat → Nat → Bool) : Nat → Nat → Option Nat
  | _, 0 => none
  | k, j + 1 => if g k 0 then some (50 * 0 + k) else if g k 1 then some (50 * 1 + k) else tyv g (k + 1) j
def tyg (r s : Nat → Nat) (w rib v side : Nat) : Bool := rd (z_word r w) (zT r s side v (s 60 ||| 2 ^ rib)) && !rd (z_word r w) (zT r s side v (s 60))
def tyr (r s : Nat → Nat) (w : Nat) : Nat → Nat → Option (Nat × Nat)
  | _, 0 => none
  | k, j + 1 => if (s 60).testBit k then tyr r s w (k + 1) j else match tyv (tyg r s w k) 0 (z_mo r + 1) with
    | some c => some (k, c)
    | none => tyr r s w (k + 1) j
def tyV (x : Int32) (rib c : Nat) : Int32 := if x = nI 0 then nI rib else nI c
def tyA (x : Int32) : Option (Nat × Nat) → Int32
  | none => -nI 2
  | some p => tyV x p.1 p.2
theorem tyv_lt (g : Nat → Nat → Bool) : ∀ j k c, tyv g k j = some c → c ≤ 50 + (k + j)
  | 0, k, c, h => by cases h
  | j + 1, k, c, h => by
    rw [tyv] at h
    split at h
    · have := Option.some.inj h; omega
    · split at h
      · have := Option.some.inj h; omega
      · have := tyv_lt g j (k + 1) c h; omega
section C11
variable {m : Me} {H : Bool} {t : Nat} {r s : Nat → Nat} {x1 x2 x3 x4 : Int32}
theorem fv44 (hO : KO r s) {w rib v side n : Nat} (hw : w < r 5) (hr : rib < r 0) (hv : v ≤ z_mo r) (hs : side ≤ 1) {k29 : Nat → Int32 → Int32 → Me → Option (Int32 × Me)} (h : KC m t r s) : ∃ m', fX10_firstViewWithout_44 (n + 1) k29 (t + 7 + 2 * w) (nI (s 60 ||| 2 ^ rib)) (nI v) (nI side) m = (if tyg r s w rib v side then some (nI (50 * side + v), m') else fX10_firstViewWithout_44 n k29 (t + 7 + 2 * w) (nI (s 60 ||| 2 ^ rib)) (nI v) (nI (side + 1)) m') ∧ Ak sC m m' ∧ KC m' t r s := by
  have h5 := hO.1.2.2.2.1
  have ht := h.tt
  have h10 := hO.1.1.2.1
  have hmo := z_mo_le hO.1.1
  have hor := or_lt (k := rib) hO.s60 (by omega)
  obtain ⟨m1, e1, a1, b1, -⟩ := h.isRead2 hO (br := s 60 ||| 2 ^ rib) (side := side) (op := v) (word_ok hO.1 hw) (h.word hw) (by omega) hs hv hor
  rw [fX10_firstViewWithout_44]
  unfold fX10_firstViewWithout_91 tyg
  cases hg : rd (z_word r w) (zT r s side v (s 60 ||| 2 ^ rib))
  · refine ⟨m1, ?_, a1, b1⟩
    simp (disch := omega) only [e1, hg, Bool.false_and, cl2_so, cl1_so, ck_tr, zl_0, zl_1, zl_2, zl_3, zl_4, zl_5, zl_6, zl_7, zl_8, zl_9, zl_10, zl_11, zl_12, zl_15, zl_16, zl_20, zl_24, zl_25, zl_30, zl_31, zl_32, zl_33, zl_44, zl_48, zl_50, zl_57, zl_59, zl_60, zl_61, zl_62, zl_63, zl_64, zl_68, zl_97, zl_99, zl_100, zl_104, zl_108, zl_114, zl_120, zl_122, zl_126, zl_132, zl_180, zl_181, zl_186, zl_255, zl_900, zl_930, zl_1000, zl_1000000, nI_add, pk_mul, zs_sub, zs_lt, zs_le, zs_eq, zs_inb, zs_cl, zm_eq, zm_eq2, zm_lt, zm_le, mz_lt, mz_le, mm_eq, zs_bit, zs_or1, zs_div, zs_rem, ck_pos, if_pos, if_neg, true_or, or_true, true_and, and_true, false_or, or_false, false_and, and_false, not_true, not_false_iff, if_true, if_false, eq_self, Bool.false_eq_true, cl2_id, Bool.not_true, Bool.not_false]
  · obtain ⟨m2, e2, a2, b2, -⟩ := b1.isRead2 hO (br := s 60) (side := side) (op := v) (word_ok hO.1 hw) (b1.word hw) (by omega) hs hv hO.s60
    have e3 := b1.2.2.2.1.2.1
    refine ⟨m2, ?_, a1.tr a2, b2⟩
    cases hg2 : rd (z_word r w) (zT r s side v (s 60)) <;> simp (disch := omega) only [e1, hg, e3, e2, hg2, Bool.true_and, cl2_so, cl1_so, ck_tr, zl_0, zl_1, zl_2, zl_3, zl_4, zl_5, zl_6, zl_7, zl_8, zl_9, zl_10, zl_11, zl_12, zl_15, zl_16, zl_20, zl_24, zl_25, zl_30, zl_31, zl_32, zl_33, zl_44, zl_48, zl_50, zl_57, zl_59, zl_60, zl_61, zl_62, zl_63, zl_64, zl_68, zl_97, zl_99, zl_100, zl_104, zl_108, zl_114, zl_120, zl_122, zl_126, zl_132, zl_180, zl_181, zl_186, zl_255, zl_900, zl_930, zl_1000, zl_1000000, nI_add, pk_mul, zs_sub, zs_lt, zs_le, zs_eq, zs_inb, zs_cl, zm_eq, zm_eq2, zm_lt, zm_le, mz_lt, mz_le, mm_eq, zs_bit, zs_or1, zs_div, zs_rem, ck_pos, if_pos, if_neg, true_or, or_true, true_and, and_true, false_or, or_false, false_and, and_false, not_true, not_false_iff, if_true, if_false, eq_self, Bool.false_eq_true, cl2_id, Bool.not_true, Bool.not_false]
theorem fv29 (hO : KO r s) {w rib : Nat} (hw : w < r 5) (hr : rib < r 0) : ∀ j k n (m : Me), KC m t r s → k + j = z_mo r + 1 → j < n → ∃ m', fX10_firstViewWithout_29 n (t + 7 + 2 * w) (nI (s 60 ||| 2 ^ rib)) (nI k) m = some (z_oi (tyv (tyg r s w rib) k j), m') ∧ Ak sC m m' ∧ KC m' t r s := by
  have hmo := z_mo_le hO.1.1
  intro j
  induction j with
  | zero =>
    intro k n m h hk hn
    obtain ⟨n, rfl⟩ : ∃ n', n = n' + 1 := ⟨n - 1, by omega⟩
    refine ⟨m, ?_, Ak.rf m, h⟩
    rw [fX10_firstViewWithout_29, tyv]
    simp (disch := omega) only [h.1, h.openings hO, cl2_so, cl1_so, ck_tr, zl_0, zl_1, zl_2, zl_3, zl_4, zl_5, zl_6, zl_7, zl_8, zl_9, zl_10, zl_11, zl_12, zl_15, zl_16, zl_20, zl_24, zl_25, zl_30, zl_31, zl_32, zl_33, zl_44, zl_48, zl_50, zl_57, zl_59, zl_60, zl_61, zl_62, zl_63, zl_64, zl_68, zl_97, zl_99, zl_100, zl_104, zl_108, zl_114, zl_120, zl_122, zl_126, zl_132, zl_180, zl_181, zl_186, zl_255, zl_900, zl_930, zl_1000, zl_1000000, nI_add, pk_mul, zs_sub, zs_lt, zs_le, zs_eq, zs_inb, zs_cl, zm_eq, zm_eq2, zm_lt, zm_le, mz_lt, mz_le, mm_eq, zs_bit, zs_or1, zs_div, zs_rem, ck_pos, if_pos, if_neg, true_or, or_true, true_and, and_true, false_or, or_false, false_and, and_false, not_true, not_false_iff, if_true, if_false, eq_self, Bool.false_eq_true, cl2_id, Bool.not_true, Bool.not_false]
    rfl
  | succ j ih =>
    intro k n m h hk hn
    obtain ⟨n, rfl⟩ : ∃ n', n = n' + 1 := ⟨n - 1, by omega⟩
    obtain ⟨m1, e1, a1, b1⟩ := fv44 (t := t) hO (n := 1999) hw hr (v := k) (by omega) (side := 0) (by omega) (k29 := fX10_firstViewWithout_29 n) h
    rw [fX10_firstViewWithout_29, tyv]
    cases g0 : tyg r s w rib k 0
    · rw [g0, if_neg (by decide)] at e1
      obtain ⟨m2, e2, a2, b2⟩ := fv44 (t := t) hO (n := 1998) hw hr (v := k) (by omega) (side := 1) (by omega) (k29 := fX10_firstViewWithout_29 n) b1
      cases g1 : tyg r s w rib k 1
      · rw [g1, if_neg (by decide)] at e2
        obtain ⟨m3, e3, a3, b3⟩ := ih (k + 1) n m2 b2 (by omega) (by omega)
        refine ⟨m3, ?_, (a1.tr a2).tr a3, b3⟩
        simp (disch := omega) only [h.1, h.openings hO, cl2_so, cl1_so, ck_tr, zl_0, zl_1, zl_2, zl_3, zl_4, zl_5, zl_6, zl_7, zl_8, zl_9, zl_10, zl_11, zl_12, zl_15, zl_16, zl_20, zl_24, zl_25, zl_30, zl_31, zl_32, zl_33, zl_44, zl_48, zl_50, zl_57, zl_59, zl_60, zl_61, zl_62, zl_63, zl_64, zl_68, zl_97, zl_99, zl_100, zl_104, zl_108, zl_114, zl_120, zl_122, zl_126, zl_132, zl_180, zl_181, zl_186, zl_255, zl_900, zl_930, zl_1000, zl_1000000, nI_add, pk_mul, zs_sub, zs_lt, zs_le, zs_eq, zs_inb, zs_cl, zm_eq, zm_eq2, zm_lt, zm_le, mz_lt, mz_le, mm_eq, zs_bit, zs_or1, zs_div, zs_rem, ck_pos, if_pos, if_neg, true_or, or_true, true_and, and_true, false_or, or_false, false_and, and_false, not_true, not_false_iff, if_true, if_false, eq_self, Bool.false_eq_true, cl2_id, Bool.not_true, Bool.not_false]
        refine Eq.trans e1 (Eq.trans e2 ?_)
        rw [fX10_firstViewWithout_44]
        simp (disch := omega) only [cl2_so, cl1_so, ck_tr, zl_0, zl_1, zl_2, zl_3, zl_4, zl_5, zl_6, zl_7, zl_8, zl_9, zl_10, zl_11, zl_12, zl_15, zl_16, zl_20, zl_24, zl_25, zl_30, zl_31, zl_32, zl_33, zl_44, zl_48, zl_50, zl_57, zl_59, zl_60, zl_61, zl_62, zl_63, zl_64, zl_68, zl_97, zl_99, zl_100, zl_104, zl_108, zl_114, zl_120, zl_122, zl_126, zl_132, zl_180, zl_181, zl_186, zl_255, zl_900, zl_930, zl_1000, zl_1000000, nI_add, pk_mul, zs_sub, zs_lt, zs_le, zs_eq, zs_inb, zs_cl, zm_eq, zm_eq2, zm_lt, zm_le, mz_lt, mz_le, mm_eq, zs_bit, zs_or1, zs_div, zs_rem, ck_pos, if_pos, if_neg, true_or, or_true, true_and, and_true, false_or, or_false, false_and, and_false, not_true, not_false_iff, if_true, if_false, eq_self, Bool.false_eq_true, cl2_id, Bool.not_true, Bool.not_false]
        exact e3
      · rw [g1, if_pos rfl] at e2
        refine ⟨m2, ?_, a1.tr a2, b2⟩
        simp (disch := omega) only [h.1, h.openings hO, cl2_so, cl1_so, ck_tr, zl_0, zl_1, zl_2, zl_3, zl_4, zl_5, zl_6, zl_7, zl_8, zl_9, zl_10, zl_11, zl_12, zl_15, zl_16, zl_20, zl_24, zl_25, zl_30, zl_31, zl_32, zl_33, zl_44, zl_48, zl_50, zl_57, zl_59, zl_60, zl_61, zl_62, zl_63, zl_64, zl_68, zl_97, zl_99, zl_100, zl_104, zl_108, zl_114, zl_120, zl_122, zl_126, zl_132, zl_180, zl_181, zl_186, zl_255, zl_900, zl_930, zl_1000, zl_1000000, nI_add, pk_mul, zs_sub, zs_lt, zs_le, zs_eq, zs_inb, zs_cl, zm_eq, zm_eq2, zm_lt, zm_le, mz_lt, mz_le, mm_eq, zs_bit, zs_or1, zs_div, zs_rem, ck_pos, if_pos, if_neg, true_or, or_true, true_and, and_true, false_or, or_false, false_and, and_false, not_true, not_false_iff, if_true, if_false, eq_self, Bool.false_eq_true, cl2_id, Bool.not_true, Bool.not_false]
        exact Eq.trans e1 e2
    · rw [g0, if_pos rfl] at e1
      refine ⟨m1, ?_, a1, b1⟩
      simp (disch := omega) only [h.1, h.openings hO, cl2_so, cl1_so, ck_tr, zl_0, zl_1, zl_2, zl_3, zl_4, zl_5, zl_6, zl_7, zl_8, zl_9, zl_10, zl_11, zl_12, zl_15, zl_16, zl_20, zl_24, zl_25, zl_30, zl_31, zl_32, zl_33, zl_44, zl_48, zl_50, zl_57, zl_59, zl_60, zl_61, zl_62, zl_63, zl_64, zl_68, zl_97, zl_99, zl_100, zl_104, zl_108, zl_114, zl_120, zl_122, zl_126, zl_132, zl_180, zl_181, zl_186, zl_255, zl_900, zl_930, zl_1000, zl_1000000, nI_add, pk_mul, zs_sub, zs_lt, zs_le, zs_eq, zs_inb, zs_cl, zm_eq, zm_eq2, zm_lt, zm_le, mz_lt, mz_le, mm_eq, zs_bit, zs_or1, zs_div, zs_rem, ck_pos, if_pos, if_neg, true_or, or_true, true_and, and_true, false_or, or_false, false_and, and_false, not_true, not_false_iff, if_true, if_false, eq_self, Bool.false_eq_true, cl2_id, Bool.not_true, Bool.not_false]
      exact e1
theorem ty16 (hO : KO r s) {w : Nat} (hw : w < r 5) : ∀ j k n (m : Me), KC m t r s → k + j = r 0 → j < n → AnsC (fX10_treaty_16 n (nI w) x2 (nI k) m) (tyA x2 (tyr r s w k j)) 0 m := by
  have h5 := hO.1.2.2.2.1
  have h10 := hO.1.1.2.1
  have hmo := z_mo_le hO.1.1
  intro j
  induction j with
  | zero =>
    intro k n m h hk hn
    obtain ⟨n, rfl⟩ : ∃ n', n = n' + 1 := ⟨n - 1, by omega⟩
    have e0 := h.2.2.1.1.1
    rw [fX10_treaty_16, tyr]
    simp (disch := omega) only [h.1, e0, cl2_so, cl1_so, ck_tr, zl_0, zl_1, zl_2, zl_3, zl_4, zl_5, zl_6, zl_7, zl_8, zl_9, zl_10, zl_11, zl_12, zl_15, zl_16, zl_20, zl_24, zl_25, zl_30, zl_31, zl_32, zl_33, zl_44, zl_48, zl_50, zl_57, zl_59, zl_60, zl_61, zl_62, zl_63, zl_64, zl_68, zl_97, zl_99, zl_100, zl_104, zl_108, zl_114, zl_120, zl_122, zl_126, zl_132, zl_180, zl_181, zl_186, zl_255, zl_900, zl_930, zl_1000, zl_1000000, nI_add, pk_mul, zs_sub, zs_lt, zs_le, zs_eq, zs_inb, zs_cl, zm_eq, zm_eq2, zm_lt, zm_le, mz_lt, mz_le, mm_eq, zs_bit, zs_or1, zs_div, zs_rem, ck_pos, if_pos, if_neg, true_or, or_true, true_and, and_true, false_or, or_false, false_and, and_false, not_true, not_false_iff, if_true, if_false, eq_self, Bool.false_eq_true, cl2_id, Bool.not_true, Bool.not_false]
    exact ansC_ok _ (Ak.rf m)
  | succ j ih =>
    intro k n m h hk hn
    obtain ⟨n, rfl⟩ : ∃ n', n = n' + 1 := ⟨n - 1, by omega⟩
    have e0 := h.2.2.1.1.1
    have el := fX5_lacksRib_e (k := k) h.2.2.2.1.2.1 hO.s60 (by omega)
    have e1 := h.2.2.2.1.2.1
    rw [fX10_treaty_16, tyr]
    unfold fX10_firstViewWithout fX10_treaty_61
    cases hb : (s 60).testBit k
    · obtain ⟨m1, e2, a1, b1⟩ := fv29 (t := t) hO hw (rib := k) (by omega) (z_mo r + 1) 0 FU m h (by omega) (FU_pos (by omega))
      cases hy : tyv (tyg r s w k) 0 (z_mo r + 1) with
      | none =>
        rw [hy] at e2
        have e2' : fX10_firstViewWithout_29 FU (t + 7 + 2 * w) (nI (s 60 ||| 2 ^ k)) (nI 0) m = some (-nI 2, m1) := e2
        obtain ⟨m2, f1, f2, f3⟩ := ih (k + 1) n m1 b1 (by omega) (by omega)
        refine ⟨m2, ?_, a1.tr f2, f3⟩
        simp (disch := omega) only [h.1, e0, el, hb, e1, e2', cl2_so, cl1_so, ck_tr, zl_0, zl_1, zl_2, zl_3, zl_4, zl_5, zl_6, zl_7, zl_8, zl_9, zl_10, zl_11, zl_12, zl_15, zl_16, zl_20, zl_24, zl_25, zl_30, zl_31, zl_32, zl_33, zl_44, zl_48, zl_50, zl_57, zl_59, zl_60, zl_61, zl_62, zl_63, zl_64, zl_68, zl_97, zl_99, zl_100, zl_104, zl_108, zl_114, zl_120, zl_122, zl_126, zl_132, zl_180, zl_181, zl_186, zl_255, zl_900, zl_930, zl_1000, zl_1000000, nI_add, pk_mul, zs_sub, zs_lt, zs_le, zs_eq, zs_inb, zs_cl, zm_eq, zm_eq2, zm_lt, zm_le, mz_lt, mz_le, mm_eq, zs_bit, zs_or1, zs_div, zs_rem, ck_pos, if_pos, if_neg, true_or, or_true, true_and, and_true, false_or, or_false, false_and, and_false, not_true, not_false_iff, if_true, if_false, eq_self, Bool.false_eq_true, cl2_id, Bool.not_true, Bool.not_false]
        exact f1
      | some c =>
        rw [hy] at e2
        have hc := tyv_lt _ _ _ _ hy
        have e2' : fX10_firstViewWithout_29 FU (t + 7 + 2 * w) (nI (s 60 ||| 2 ^ k)) (nI 0) m = some (nI c, m1) := e2
        simp (disch := omega) only [h.1, e0, el, hb, e1, e2', cl2_so, cl1_so, ck_tr, zl_0, zl_1, zl_2, zl_3, zl_4, zl_5, zl_6, zl_7, zl_8, zl_9, zl_10, zl_11, zl_12, zl_15, zl_16, zl_20, zl_24, zl_25, zl_30, zl_31, zl_32, zl_33, zl_44, zl_48, zl_50, zl_57, zl_59, zl_60, zl_61, zl_62, zl_63, zl_64, zl_68, zl_97, zl_99, zl_100, zl_104, zl_108, zl_114, zl_120, zl_122, zl_126, zl_132, zl_180, zl_181, zl_186, zl_255, zl_900, zl_930, zl_1000, zl_1000000, nI_add, pk_mul, zs_sub, zs_lt, zs_le, zs_eq, zs_inb, zs_cl, zm_eq, zm_eq2, zm_lt, zm_le, mz_lt, mz_le, mm_eq, zs_bit, zs_or1, zs_div, zs_rem, ck_pos, if_pos, if_neg, true_or, or_true, true_and, and_true, false_or, or_false, false_and, and_false, not_true, not_false_iff, if_true, if_false, eq_self, Bool.false_eq_true, cl2_id, Bool.not_true, Bool.not_false]
        unfold tyA tyV
        by_cases hx : x2 = nI 0
        · simp (disch := omega) only [hx, cl2_so, cl1_so, ck_tr, zl_0, zl_1, zl_2, zl_3, zl_4, zl_5, zl_6, zl_7, zl_8, zl_9, zl_10, zl_11, zl_12, zl_15, zl_16, zl_20, zl_24, zl_25, zl_30, zl_31, zl_32, zl_33, zl_44, zl_48, zl_50, zl_57, zl_59, zl_60, zl_61, zl_62, zl_63, zl_64, zl_68, zl_97, zl_99, zl_100, zl_104, zl_108, zl_114, zl_120, zl_122, zl_126, zl_132, zl_180, zl_181, zl_186, zl_255, zl_900, zl_930, zl_1000, zl_1000000, nI_add, pk_mul, zs_sub, zs_lt, zs_le, zs_eq, zs_inb, zs_cl, zm_eq, zm_eq2, zm_lt, zm_le, mz_lt, mz_le, mm_eq, zs_bit, zs_or1, zs_div, zs_rem, ck_pos, if_pos, if_neg, true_or, or_true, true_and, and_true, false_or, or_false, false_and, and_false, not_true, not_false_iff, if_true, if_false, eq_self, Bool.false_eq_true, cl2_id, Bool.not_true, Bool.not_false]
          exact ansC_ok _ a1
        · simp (disch := omega) only [hx, cl2_so, cl1_so, ck_tr, zl_0, zl_1, zl_2, zl_3, zl_4, zl_5, zl_6, zl_7, zl_8, zl_9, zl_10, zl_11, zl_12, zl_15, zl_16, zl_20, zl_24, zl_25, zl_30, zl_31, zl_32, zl_33, zl_44, zl_48, zl_50, zl_57, zl_59, zl_60, zl_61, zl_62, zl_63, zl_64, zl_68, zl_97, zl_99, zl_100, zl_104, zl_108, zl_114, zl_120, zl_122, zl_126, zl_132, zl_180, zl_181, zl_186, zl_255, zl_900, zl_930, zl_1000, zl_1000000, nI_add, pk_mul, zs_sub, zs_lt, zs_le, zs_eq, zs_inb, zs_cl, zm_eq, zm_eq2, zm_lt, zm_le, mz_lt, mz_le, mm_eq, zs_bit, zs_or1, zs_div, zs_rem, ck_pos, if_pos, if_neg, true_or, or_true, true_and, and_true, false_or, or_false, false_and, and_false, not_true, not_false_iff, if_true, if_false, eq_self, Bool.false_eq_true, cl2_id, Bool.not_true, Bool.not_false]
          exact ansC_ok _ a1
    · simp (disch := omega) only [h.1, e0, el, hb, cl2_so, cl1_so, ck_tr, zl_0, zl_1, zl_2, zl_3, zl_4, zl_5, zl_6, zl_7, zl_8, zl_9, zl_10, zl_11, zl_12, zl_15, zl_16, zl_20, zl_24, zl_25, zl_30, zl_31, zl_32, zl_33, zl_44, zl_48, zl_50, zl_57, zl_59, zl_60, zl_61, zl_62, zl_63, zl_64, zl_68, zl_97, zl_99, zl_100, zl_104, zl_108, zl_114, zl_120, zl_122, zl_126, zl_132, zl_180, zl_181, zl_186, zl_255, zl_900, zl_930, zl_1000, zl_1000000, nI_add, pk_mul, zs_sub, zs_lt, zs_le, zs_eq, zs_inb, zs_cl, zm_eq, zm_eq2, zm_lt, zm_le, mz_lt, mz_le, mm_eq, zs_bit, zs_or1, zs_div, zs_rem, ck_pos, if_pos, if_neg, true_or, or_true, true_and, and_true, false_or, or_false, false_and, and_false, not_true, not_false_iff, if_true, if_false, eq_self, Bool.false_eq_true, cl2_id, Bool.not_true, Bool.not_false]
      exact ih (k + 1) n m h (by omega) (by omega)
theorem ty65 (hO : KO r s) {w rib v side n : Nat} (hw : w < r 5) (hr : rib < r 0) (hv : v ≤ z_mo r) (hs : side ≤ 1) {k20 : Int32 → Int32 → Int32 → Me → Option (Int32 × Me)} {k50 : Int32 → Int32 → Int32 → Int32 → Me → Option (Int32 × Me)} (h : KM m r s) : ∃ m', fX11_treaty_65 (n + 1) k20 k50 (nI w) x2 (nI rib) (nI v) (nI side) m = (if tyg r s w rib v side then some (tyV x2 rib (50 * side + v), m') else fX11_treaty_65 n k20 k50 (nI w) x2 (nI rib) (nI v) (nI (side + 1)) m') ∧ Ak sN m m' ∧ KM m' r s := by
  have h5 := hO.1.2.2.2.1
  have h10 := hO.1.1.2.1
  have hmo := z_mo_le hO.1.1
  have hor := or_lt (k := rib) hO.s60 (by omega)
  obtain ⟨-, w8, -⟩ := hO.1.2.2.2.2.2.2.2.1 w hw
  obtain ⟨m1, e1, a1, b1, -⟩ := h.readsWord hO hw hs hv
  have hbd : z_rdN (z_word r w) (zT r s side v (s 60)) ≤ 30 := Nat.le_trans (z_ct_le _ _ _) (zT_30 hO _ hv)
  have hbd2 : z_rdN (z_word r w) (zT r s side v (s 60 ||| 2 ^ rib)) ≤ 30 := Nat.le_trans (z_ct_le _ _ _) (zT_30 hO _ hv)
  rw [fX11_treaty_65]
  unfold fX11_treaty_141 fX11_treaty_140 tyg tyV
  cases hg : rd (z_word r w) (zT r s side v (s 60))
  · have h0 := rd_0 hg
    obtain ⟨m2, e2, a2, b2, -⟩ := b1.reads hO (fr := 16 + 8 * w) (many := r (10 + w)) (br := s 60 ||| 2 ^ rib) hs hv hor (by omega)
    have e2' : fX11_readsOf (nI (16 + 8 * w)) (nI (r (10 + w))) (nI side) (nI v) (nI (s 60 ||| 2 ^ rib)) m1 = some (nI (z_rdN (z_word r w) (zT r s side v (s 60 ||| 2 ^ rib))), m2) := e2
    have e3 := b1.2.1 (10 + w) (by omega)
    have e4 := b1.2.2 60 (by omega)
    refine ⟨m2, ?_, a1.tr a2, b2⟩
    cases hg2 : rd (z_word r w) (zT r s side v (s 60 ||| 2 ^ rib))
    · have h1 := rd_0 hg2
      simp (disch := omega) only [e1, h0, e3, e4, e2', h1, Bool.false_and, cl2_so, cl1_so, ck_tr, zl_0, zl_1, zl_2, zl_3, zl_4, zl_5, zl_6, zl_7, zl_8, zl_9, zl_10, zl_11, zl_12, zl_15, zl_16, zl_20, zl_24, zl_25, zl_30, zl_31, zl_32, zl_33, zl_44, zl_48, zl_50, zl_57, zl_59, zl_60, zl_61, zl_62, zl_63, zl_64, zl_68, zl_97, zl_99, zl_100, zl_104, zl_108, zl_114, zl_120, zl_122, zl_126, zl_132, zl_180, zl_181, zl_186, zl_255, zl_900, zl_930, zl_1000, zl_1000000, nI_add, pk_mul, zs_sub, zs_lt, zs_le, zs_eq, zs_inb, zs_cl, zm_eq, zm_eq2, zm_lt, zm_le, mz_lt, mz_le, mm_eq, zs_bit, zs_or1, zs_div, zs_rem, ck_pos, if_pos, if_neg, true_or, or_true, true_and, and_true, false_or, or_false, false_and, and_false, not_true, not_false_iff, if_true, if_false, eq_self, Bool.false_eq_true, cl2_id, Bool.not_true, Bool.not_false]
    · have h1 := rd_1 hg2
      by_cases hx : x2 = nI 0
      · simp (disch := omega) only [e1, h0, e3, e4, e2', Bool.true_and, hx, cl2_so, cl1_so, ck_tr, zl_0, zl_1, zl_2, zl_3, zl_4, zl_5, zl_6, zl_7, zl_8, zl_9, zl_10, zl_11, zl_12, zl_15, zl_16, zl_20, zl_24, zl_25, zl_30, zl_31, zl_32, zl_33, zl_44, zl_48, zl_50, zl_57, zl_59, zl_60, zl_61, zl_62, zl_63, zl_64, zl_68, zl_97, zl_99, zl_100, zl_104, zl_108, zl_114, zl_120, zl_122, zl_126, zl_132, zl_180, zl_181, zl_186, zl_255, zl_900, zl_930, zl_1000, zl_1000000, nI_add, pk_mul, zs_sub, zs_lt, zs_le, zs_eq, zs_inb, zs_cl, zm_eq, zm_eq2, zm_lt, zm_le, mz_lt, mz_le, mm_eq, zs_bit, zs_or1, zs_div, zs_rem, ck_pos, if_pos, if_neg, true_or, or_true, true_and, and_true, false_or, or_false, false_and, and_false, not_true, not_false_iff, if_true, if_false, eq_self, Bool.false_eq_true, cl2_id, Bool.not_true, Bool.not_false]
      · simp (disch := omega) only [e1, h0, e3, e4, e2', Bool.true_and, hx, cl2_so, cl1_so, ck_tr, zl_0, zl_1, zl_2, zl_3, zl_4, zl_5, zl_6, zl_7, zl_8, zl_9, zl_10, zl_11, zl_12, zl_15, zl_16, zl_20, zl_24, zl_25, zl_30, zl_31, zl_32, zl_33, zl_44, zl_48, zl_50, zl_57, zl_59, zl_60, zl_61, zl_62, zl_63, zl_64, zl_68, zl_97, zl_99, zl_100, zl_104, zl_108, zl_114, zl_120, zl_122, zl_126, zl_132, zl_180, zl_181, zl_186, zl_255, zl_900, zl_930, zl_1000, zl_1000000, nI_add, pk_mul, zs_sub, zs_lt, zs_le, zs_eq, zs_inb, zs_cl, zm_eq, zm_eq2, zm_lt, zm_le, mz_lt, mz_le, mm_eq, zs_bit, zs_or1, zs_div, zs_rem, ck_pos, if_pos, if_neg, true_or, or_true, true_and, and_true, false_or, or_false, false_and, and_false, not_true, not_false_iff, if_true, if_false, eq_self, Bool.false_eq_true, cl2_id, Bool.not_true, Bool.not_false]
  · have h0 := rd_1 hg
    refine ⟨m1, ?_, a1, b1⟩
    simp (disch := omega) only [e1, Bool.and_false, cl2_so, cl1_so, ck_tr, zl_0, zl_1, zl_2, zl_3, zl_4, zl_5, zl_6, zl_7, zl_8, zl_9, zl_10, zl_11, zl_12, zl_15, zl_16, zl_20, zl_24, zl_25, zl_30, zl_31, zl_32, zl_33, zl_44, zl_48, zl_50, zl_57, zl_59, zl_60, zl_61, zl_62, zl_63, zl_64, zl_68, zl_97, zl_99, zl_100, zl_104, zl_108, zl_114, zl_120, zl_122, zl_126, zl_132, zl_180, zl_181, zl_186, zl_255, zl_900, zl_930, zl_1000, zl_1000000, nI_add, pk_mul, zs_sub, zs_lt, zs_le, zs_eq, zs_inb, zs_cl, zm_eq, zm_eq2, zm_lt, zm_le, mz_lt, mz_le, mm_eq, zs_bit, zs_or1, zs_div, zs_rem, ck_pos, if_pos, if_neg, true_or, or_true, true_and, and_true, false_or, or_false, false_and, and_false, not_true, not_false_iff, if_true, if_false, eq_self, Bool.false_eq_true, cl2_id, Bool.not_true, Bool.not_false]
theorem ty50 (hO : KO r s) {w rib : Nat} (hw : w < r 5) (hr : rib < r 0) {k20 : Int32 → Int32 → Int32 → Me → Option (Int32 × Me)} : ∀ j k n (m : Me), KM m r s → k + j = z_mo r + 1 → j < n → ∃ m', fX11_treaty_50 n k20 (nI w) x2 (nI rib) (nI k) m = (match tyv (tyg r s w rib) k j with | some c => some (tyV x2 rib c, m') | none => k20 (nI w) x2 (nI (rib + 1)) m') ∧ Ak sN m m' ∧ KM m' r s := by
  have hmo := z_mo_le hO.1.1
  intro j
  induction j with
  | zero =>
    intro k n m h hk hn
    obtain ⟨n, rfl⟩ : ∃ n', n = n' + 1 := ⟨n - 1, by omega⟩
    refine ⟨m, ?_, Ak.rf m, h⟩
    rw [fX11_treaty_50, tyv]
    unfold fX11_treaty_153
    simp (disch := omega) only [h.mostOpen hO, cl2_so, cl1_so, ck_tr, zl_0, zl_1, zl_2, zl_3, zl_4, zl_5, zl_6, zl_7, zl_8, zl_9, zl_10, zl_11, zl_12, zl_15, zl_16, zl_20, zl_24, zl_25, zl_30, zl_31, zl_32, zl_33, zl_44, zl_48, zl_50, zl_57, zl_59, zl_60, zl_61, zl_62, zl_63, zl_64, zl_68, zl_97, zl_99, zl_100, zl_104, zl_108, zl_114, zl_120, zl_122, zl_126, zl_132, zl_180, zl_181, zl_186, zl_255, zl_900, zl_930, zl_1000, zl_1000000, nI_add, pk_mul, zs_sub, zs_lt, zs_le, zs_eq, zs_inb, zs_cl, zm_eq, zm_eq2, zm_lt, zm_le, mz_lt, mz_le, mm_eq, zs_bit, zs_or1, zs_div, zs_rem, ck_pos, if_pos, if_neg, true_or, or_true, true_and, and_true, false_or, or_false, false_and, and_false, not_true, not_false_iff, if_true, if_false, eq_self, Bool.false_eq_true, cl2_id, Bool.not_true, Bool.not_false]
  | succ j ih =>
    intro k n m h hk hn
    obtain ⟨n, rfl⟩ : ∃ n', n = n' + 1 := ⟨n - 1, by omega⟩
    obtain ⟨m1, e1, a1, b1⟩ := ty65 (x2 := x2) hO (n := 1999) hw hr (v := k) (by omega) (side := 0) (by omega) (k20 := k20) (k50 := fX11_treaty_50 n k20) h
    rw [fX11_treaty_50, tyv]
    cases g0 : tyg r s w rib k 0
    · rw [g0, if_neg (by decide)] at e1
      obtain ⟨m2, e2, a2, b2⟩ := ty65 (x2 := x2) hO (n := 1998) hw hr (v := k) (by omega) (side := 1) (by omega) (k20 := k20) (k50 := fX11_treaty_50 n k20) b1
      cases g1 : tyg r s w rib k 1
      · rw [g1, if_neg (by decide)] at e2
        obtain ⟨m3, e3, a3, b3⟩ := ih (k + 1) n m2 b2 (by omega) (by omega)
        refine ⟨m3, ?_, (a1.tr a2).tr a3, b3⟩
        simp (disch := omega) only [h.mostOpen hO, cl2_so, cl1_so, ck_tr, zl_0, zl_1, zl_2, zl_3, zl_4, zl_5, zl_6, zl_7, zl_8, zl_9, zl_10, zl_11, zl_12, zl_15, zl_16, zl_20, zl_24, zl_25, zl_30, zl_31, zl_32, zl_33, zl_44, zl_48, zl_50, zl_57, zl_59, zl_60, zl_61, zl_62, zl_63, zl_64, zl_68, zl_97, zl_99, zl_100, zl_104, zl_108, zl_114, zl_120, zl_122, zl_126, zl_132, zl_180, zl_181, zl_186, zl_255, zl_900, zl_930, zl_1000, zl_1000000, nI_add, pk_mul, zs_sub, zs_lt, zs_le, zs_eq, zs_inb, zs_cl, zm_eq, zm_eq2, zm_lt, zm_le, mz_lt, mz_le, mm_eq, zs_bit, zs_or1, zs_div, zs_rem, ck_pos, if_pos, if_neg, true_or, or_true, true_and, and_true, false_or, or_false, false_and, and_false, not_true, not_false_iff, if_true, if_false, eq_self, Bool.false_eq_true, cl2_id, Bool.not_true, Bool.not_false]
        refine Eq.trans e1 (Eq.trans e2 ?_)
        rw [fX11_treaty_65]
        simp (disch := omega) only [cl2_so, cl1_so, ck_tr, zl_0, zl_1, zl_2, zl_3, zl_4, zl_5, zl_6, zl_7, zl_8, zl_9, zl_10, zl_11, zl_12, zl_15, zl_16, zl_20, zl_24, zl_25, zl_30, zl_31, zl_32, zl_33, zl_44, zl_48, zl_50, zl_57, zl_59, zl_60, zl_61, zl_62, zl_63, zl_64, zl_68, zl_97, zl_99, zl_100, zl_104, zl_108, zl_114, zl_120, zl_122, zl_126, zl_132, zl_180, zl_181, zl_186, zl_255, zl_900, zl_930, zl_1000, zl_1000000, nI_add, pk_mul, zs_sub, zs_lt, zs_le, zs_eq, zs_inb, zs_cl, zm_eq, zm_eq2, zm_lt, zm_le, mz_lt, mz_le, mm_eq, zs_bit, zs_or1, zs_div, zs_rem, ck_pos, if_pos, if_neg, true_or, or_true, true_and, and_true, false_or, or_false, false_and, and_false, not_true, not_false_iff, if_true, if_false, eq_self, Bool.false_eq_true, cl2_id, Bool.not_true, Bool.not_false]
        exact e3
      · rw [g1, if_pos rfl] at e2
        refine ⟨m2, ?_, a1.tr a2, b2⟩
        simp (disch := omega) only [h.mostOpen hO, cl2_so, cl1_so, ck_tr, zl_0, zl_1, zl_2, zl_3, zl_4, zl_5, zl_6, zl_7, zl_8, zl_9, zl_10, zl_11, zl_12, zl_15, zl_16, zl_20, zl_24, zl_25, zl_30, zl_31, zl_32, zl_33, zl_44, zl_48, zl_50, zl_57, zl_59, zl_60, zl_61, zl_62, zl_63, zl_64, zl_68, zl_97, zl_99, zl_100, zl_104, zl_108, zl_114, zl_120, zl_122, zl_126, zl_132, zl_180, zl_181, zl_186, zl_255, zl_900, zl_930, zl_1000, zl_1000000, nI_add, pk_mul, zs_sub, zs_lt, zs_le, zs_eq, zs_inb, zs_cl, zm_eq, zm_eq2, zm_lt, zm_le, mz_lt, mz_le, mm_eq, zs_bit, zs_or1, zs_div, zs_rem, ck_pos, if_pos, if_neg, true_or, or_true, true_and, and_true, false_or, or_false, false_and, and_false, not_true, not_false_iff, if_true, if_false, eq_self, Bool.false_eq_true, cl2_id, Bool.not_true, Bool.not_false]
        exact Eq.trans e1 e2
    · rw [g0, if_pos rfl] at e1
      refine ⟨m1, ?_, a1, b1⟩
      simp (disch := omega) only [h.mostOpen hO, cl2_so, cl1_so, ck_tr, zl_0, zl_1, zl_2, zl_3, zl_4, zl_5, zl_6, zl_7, zl_8, zl_9, zl_10, zl_11, zl_12, zl_15, zl_16, zl_20, zl_24, zl_25, zl_30, zl_31, zl_32, zl_33, zl_44, zl_48, zl_50, zl_57, zl_59, zl_60, zl_61, zl_62, zl_63, zl_64, zl_68, zl_97, zl_99, zl_100, zl_104, zl_108, zl_114, zl_120, zl_122, zl_126, zl_132, zl_180, zl_181, zl_186, zl_255, zl_900, zl_930, zl_1000, zl_1000000, nI_add, pk_mul, zs_sub, zs_lt, zs_le, zs_eq, zs_inb, zs_cl, zm_eq, zm_eq2, zm_lt, zm_le, mz_lt, mz_le, mm_eq, zs_bit, zs_or1, zs_div, zs_rem, ck_pos, if_pos, if_neg, true_or, or_true, true_and, and_true, false_or, or_false, false_and, and_false, not_true, not_false_iff, if_true, if_false, eq_self, Bool.false_eq_true, cl2_id, Bool.not_true, Bool.not_false]
      exact e1
theorem ty20 (hO : KO r s) {w : Nat} (hw : w < r 5) : ∀ j k n (m : Me), KM m r s → k + j = r 0 → j < n → ∃ m', fX11_treaty_20 n (nI w) x2 (nI k) m = some (tyA x2 (tyr r s w k j), m') ∧ Ak sN m m' := by
  have h10 := hO.1.1.2.1
  have hmo := z_mo_le hO.1.1
  have h60 := hO.s60
  intro j
  induction j with
  | zero =>
    intro k n m h hk hn
    obtain ⟨n, rfl⟩ : ∃ n', n = n' + 1 := ⟨n - 1, by omega⟩
    refine ⟨m, ?_, Ak.rf m⟩
    rw [fX11_treaty_20, tyr]
    simp (disch := omega) only [h.2.1 0 (by omega), tyA, cl2_so, cl1_so, ck_tr, zl_0, zl_1, zl_2, zl_3, zl_4, zl_5, zl_6, zl_7, zl_8, zl_9, zl_10, zl_11, zl_12, zl_15, zl_16, zl_20, zl_24, zl_25, zl_30, zl_31, zl_32, zl_33, zl_44, zl_48, zl_50, zl_57, zl_59, zl_60, zl_61, zl_62, zl_63, zl_64, zl_68, zl_97, zl_99, zl_100, zl_104, zl_108, zl_114, zl_120, zl_122, zl_126, zl_132, zl_180, zl_181, zl_186, zl_255, zl_900, zl_930, zl_1000, zl_1000000, nI_add, pk_mul, zs_sub, zs_lt, zs_le, zs_eq, zs_inb, zs_cl, zm_eq, zm_eq2, zm_lt, zm_le, mz_lt, mz_le, mm_eq, zs_bit, zs_or1, zs_div, zs_rem, ck_pos, if_pos, if_neg, true_or, or_true, true_and, and_true, false_or, or_false, false_and, and_false, not_true, not_false_iff, if_true, if_false, eq_self, Bool.false_eq_true, cl2_id, Bool.not_true, Bool.not_false]
  | succ j ih =>
    intro k n m h hk hn
    obtain ⟨n, rfl⟩ : ∃ n', n = n' + 1 := ⟨n - 1, by omega⟩
    have e1 := h.2.2 60 (by omega)
    have eh := fX11_has_e (br := s 60) (k := k) (by omega) (by omega) m
    have e0 := h.2.1 0 (by omega)
    rw [fX11_treaty_20, tyr]
    cases hb : (s 60).testBit k
    · obtain ⟨m1, e2, a1, b1⟩ := ty50 (x2 := x2) hO hw (rib := k) (by omega) (k20 := fX11_treaty_20 n) (z_mo r + 1) 0 FU m h (by omega) (FU_pos (by omega))
      cases hy : tyv (tyg r s w k) 0 (z_mo r + 1) with
      | none =>
        rw [hy] at e2
        obtain ⟨m2, f1, f2⟩ := ih (k + 1) n m1 b1 (by omega) (by omega)
        refine ⟨m2, ?_, a1.tr f2⟩
        simp (disch := omega) only [e0, e1, eh, hb, cl2_so, cl1_so, ck_tr, zl_0, zl_1, zl_2, zl_3, zl_4, zl_5, zl_6, zl_7, zl_8, zl_9, zl_10, zl_11, zl_12, zl_15, zl_16, zl_20, zl_24, zl_25, zl_30, zl_31, zl_32, zl_33, zl_44, zl_48, zl_50, zl_57, zl_59, zl_60, zl_61, zl_62, zl_63, zl_64, zl_68, zl_97, zl_99, zl_100, zl_104, zl_108, zl_114, zl_120, zl_122, zl_126, zl_132, zl_180, zl_181, zl_186, zl_255, zl_900, zl_930, zl_1000, zl_1000000, nI_add, pk_mul, zs_sub, zs_lt, zs_le, zs_eq, zs_inb, zs_cl, zm_eq, zm_eq2, zm_lt, zm_le, mz_lt, mz_le, mm_eq, zs_bit, zs_or1, zs_div, zs_rem, ck_pos, if_pos, if_neg, true_or, or_true, true_and, and_true, false_or, or_false, false_and, and_false, not_true, not_false_iff, if_true, if_false, eq_self, Bool.false_eq_true, cl2_id, Bool.not_true, Bool.not_false]
        exact e2.trans f1
      | some c =>
        rw [hy] at e2
        refine ⟨m1, ?_, a1⟩
        simp (disch := omega) only [e0, e1, eh, hb, cl2_so, cl1_so, ck_tr, zl_0, zl_1, zl_2, zl_3, zl_4, zl_5, zl_6, zl_7, zl_8, zl_9, zl_10, zl_11, zl_12, zl_15, zl_16, zl_20, zl_24, zl_25, zl_30, zl_31, zl_32, zl_33, zl_44, zl_48, zl_50, zl_57, zl_59, zl_60, zl_61, zl_62, zl_63, zl_64, zl_68, zl_97, zl_99, zl_100, zl_104, zl_108, zl_114, zl_120, zl_122, zl_126, zl_132, zl_180, zl_181, zl_186, zl_255, zl_900, zl_930, zl_1000, zl_1000000, nI_add, pk_mul, zs_sub, zs_lt, zs_le, zs_eq, zs_inb, zs_cl, zm_eq, zm_eq2, zm_lt, zm_le, mz_lt, mz_le, mm_eq, zs_bit, zs_or1, zs_div, zs_rem, ck_pos, if_pos, if_neg, true_or, or_true, true_and, and_true, false_or, or_false, false_and, and_false, not_true, not_false_iff, if_true, if_false, eq_self, Bool.false_eq_true, cl2_id, Bool.not_true, Bool.not_false]
        exact e2
    · obtain ⟨m2, f1, f2⟩ := ih (k + 1) n m h (by omega) (by omega)
      refine ⟨m2, ?_, f2⟩
      unfold fX11_treaty_153
      simp (disch := omega) only [e0, e1, eh, hb, cl2_so, cl1_so, ck_tr, zl_0, zl_1, zl_2, zl_3, zl_4, zl_5, zl_6, zl_7, zl_8, zl_9, zl_10, zl_11, zl_12, zl_15, zl_16, zl_20, zl_24, zl_25, zl_30, zl_31, zl_32, zl_33, zl_44, zl_48, zl_50, zl_57, zl_59, zl_60, zl_61, zl_62, zl_63, zl_64, zl_68, zl_97, zl_99, zl_100, zl_104, zl_108, zl_114, zl_120, zl_122, zl_126, zl_132, zl_180, zl_181, zl_186, zl_255, zl_900, zl_930, zl_1000, zl_1000000, nI_add, pk_mul, zs_sub, zs_lt, zs_le, zs_eq, zs_inb, zs_cl, zm_eq, zm_eq2, zm_lt, zm_le, mz_lt, mz_le, mm_eq, zs_bit, zs_or1, zs_div, zs_rem, ck_pos, if_pos, if_neg, true_or, or_true, true_and, and_true, false_or, or_false, false_and, and_false, not_true, not_false_iff, if_true, if_false, eq_self, Bool.false_eq_true, cl2_id, Bool.not_true, Bool.not_false]
      exact f1
theorem b_treaty (hI : Inv m) (hC : JC m H r s) (hM : JM m H r s) (hO : JO H r s) : Both (fX10_treaty x1 x2) (fX11_treaty x1 x2) m := by
  cases hv : vN H (r 5) x1
  · refine ⟨-nI 1, 1, ?_, fun m1 h1 => ?_⟩
    · unfold fX10_treaty
      simp (disch := omega) only [fX10_noWord_e hC, hv, cl2_so, cl1_so, ck_tr, zl_0, zl_1, zl_2, zl_3, zl_4, zl_5, zl_6, zl_7, zl_8, zl_9, zl_10, zl_11, zl_12, zl_15, zl_16, zl_20, zl_24, zl_25, zl_30, zl_31, zl_32, zl_33, zl_44, zl_48, zl_50, zl_57, zl_59, zl_60, zl_61, zl_62, zl_63, zl_64, zl_68, zl_97, zl_99, zl_100, zl_104, zl_108, zl_114, zl_120, zl_122, zl_126, zl_132, zl_180, zl_181, zl_186, zl_255, zl_900, zl_930, zl_1000, zl_1000000, nI_add, pk_mul, zs_sub, zs_lt, zs_le, zs_eq, zs_inb, zs_cl, zm_eq, zm_eq2, zm_lt, zm_le, mz_lt, mz_le, mm_eq, zs_bit, zs_or1, zs_div, zs_rem, ck_pos, if_pos, if_neg, true_or, or_true, true_and, and_true, false_or, or_false, false_and, and_false, not_true, not_false_iff, if_true, if_false, eq_self, Bool.false_eq_true, cl2_id, Bool.not_true, Bool.not_false]
      exact ansC_no 1 (Ak.rf m)
    · have hM1 := hM.ag (h1.agC.tr (gd_ak m1).agM)
      unfold fX11_treaty
      simp (disch := omega) only [gd_e, fX11_isWordThere_e hM1 hO, hv, cl2_so, cl1_so, ck_tr, zl_0, zl_1, zl_2, zl_3, zl_4, zl_5, zl_6, zl_7, zl_8, zl_9, zl_10, zl_11, zl_12, zl_15, zl_16, zl_20, zl_24, zl_25, zl_30, zl_31, zl_32, zl_33, zl_44, zl_48, zl_50, zl_57, zl_59, zl_60, zl_61, zl_62, zl_63, zl_64, zl_68, zl_97, zl_99, zl_100, zl_104, zl_108, zl_114, zl_120, zl_122, zl_126, zl_132, zl_180, zl_181, zl_186, zl_255, zl_900, zl_930, zl_1000, zl_1000000, nI_add, pk_mul, zs_sub, zs_lt, zs_le, zs_eq, zs_inb, zs_cl, zm_eq, zm_eq2, zm_lt, zm_le, mz_lt, mz_le, mm_eq, zs_bit, zs_or1, zs_div, zs_rem, ck_pos, if_pos, if_neg, true_or, or_true, true_and, and_true, false_or, or_false, false_and, and_false, not_true, not_false_iff, if_true, if_false, eq_self, Bool.false_eq_true, cl2_id, Bool.not_true, Bool.not_false]
      exact ansM_no 1 (gd_ak m1)
  · have hH := vN_H hv
    subst hH
    have hK : KO r s := hO rfl
    have h10 := hK.1.1.2.1
    obtain ⟨w, hw, rfl⟩ := vN_in (hK.1.2.1 5 (by decide)) hv
    refine ⟨tyA x2 (tyr r s w 0 (r 0)), 0, ?_, fun m1 h1 => ?_⟩
    · unfold fX10_treaty
      simp (disch := omega) only [fX10_noWord_e hC, hv, cl2_so, cl1_so, ck_tr, zl_0, zl_1, zl_2, zl_3, zl_4, zl_5, zl_6, zl_7, zl_8, zl_9, zl_10, zl_11, zl_12, zl_15, zl_16, zl_20, zl_24, zl_25, zl_30, zl_31, zl_32, zl_33, zl_44, zl_48, zl_50, zl_57, zl_59, zl_60, zl_61, zl_62, zl_63, zl_64, zl_68, zl_97, zl_99, zl_100, zl_104, zl_108, zl_114, zl_120, zl_122, zl_126, zl_132, zl_180, zl_181, zl_186, zl_255, zl_900, zl_930, zl_1000, zl_1000000, nI_add, pk_mul, zs_sub, zs_lt, zs_le, zs_eq, zs_inb, zs_cl, zm_eq, zm_eq2, zm_lt, zm_le, mz_lt, mz_le, mm_eq, zs_bit, zs_or1, zs_div, zs_rem, ck_pos, if_pos, if_neg, true_or, or_true, true_and, and_true, false_or, or_false, false_and, and_false, not_true, not_false_iff, if_true, if_false, eq_self, Bool.false_eq_true, cl2_id, Bool.not_true, Bool.not_false]
      exact ty16 hK hw (r 0) 0 FU m (hC.kc hI) (by omega) (FU_pos (by omega))
    · have hM1 := hM.ag (h1.agC.tr (gd_ak m1).agM)
      obtain ⟨m2, e2, f1⟩ := ty20 (x2 := x2) hK hw (r 0) 0 FU _ hM1.km (by omega) (FU_pos (by omega))
      unfold fX11_treaty
      simp (disch := omega) only [gd_e, fX11_isWordThere_e hM1 hO, hv, e2, cl2_so, cl1_so, ck_tr, zl_0, zl_1, zl_2, zl_3, zl_4, zl_5, zl_6, zl_7, zl_8, zl_9, zl_10, zl_11, zl_12, zl_15, zl_16, zl_20, zl_24, zl_25, zl_30, zl_31, zl_32, zl_33, zl_44, zl_48, zl_50, zl_57, zl_59, zl_60, zl_61, zl_62, zl_63, zl_64, zl_68, zl_97, zl_99, zl_100, zl_104, zl_108, zl_114, zl_120, zl_122, zl_126, zl_132, zl_180, zl_181, zl_186, zl_255, zl_900, zl_930, zl_1000, zl_1000000, nI_add, pk_mul, zs_sub, zs_lt, zs_le, zs_eq, zs_inb, zs_cl, zm_eq, zm_eq2, zm_lt, zm_le, mz_lt, mz_le, mm_eq, zs_bit, zs_or1, zs_div, zs_rem, ck_pos, if_pos, if_neg, true_or, or_true, true_and, and_true, false_or, or_false, false_and, and_false, not_true, not_false_iff, if_true, if_false, eq_self, Bool.false_eq_true, cl2_id, Bool.not_true, Bool.not_false]
      exact ansN_ok _ f1
end C11
/-! sever -/
def pcn (x : Nat) : Nat := z_ct (fun k => x.testBit k) 0 10
def mE : Me := (fun _ _ => 0, fun _ _ => none)
def bcX (x : Int32) : Int32 := ((fJ6_bitCount_0f7a4 x mE).getD (0, mE)).1
theorem bcX_e (x : Int32) (m : Me) : fJ6_bitCount_0f7a4 x m = some (bcX x, m) := rfl
theorem bcX_t : ∀ x, x < 1024 → bcX (nI x) = nI (pcn x) := by decide +kernel
theorem bc_e {x : Nat} (h : x < 1024) (m : Me) : fJ6_bitCount_0f7a4 (nI x) m = some (nI (pcn x), m) := by rw [bcX_e, bcX_t x h]
theorem pcn_le (x : Nat) : pcn x ≤ 10 := z_ct_le _ _ _
theorem bi4 {x : Nat} (hx : x < 1024) {m : Me} : ∀ j k n q, k + j = 10 → j < n → fX11_bits_4 n (nI x) (nI q) (nI k) m = some (nI (q + z_ct (fun k => x.testBit k) k j), m) := by
  intro j
  induction j with
  | zero =>
    intro k n q hk hn
    obtain ⟨n, rfl⟩ : ∃ n', n = n' + 1 := ⟨n - 1, by omega⟩
    rw [fX11_bits_4, z_ct]
    simp (disch := omega) only [Nat.add_zero, cl2_so, cl1_so, ck_tr, zl_0, zl_1, zl_2, zl_3, zl_4, zl_5, zl_6, zl_7, zl_8, zl_9, zl_10, zl_11, zl_12, zl_15, zl_16, zl_20, zl_24, zl_25, zl_30, zl_31, zl_32, zl_33, zl_44, zl_48, zl_50, zl_57, zl_59, zl_60, zl_61, zl_62, zl_63, zl_64, zl_68, zl_97, zl_99, zl_100, zl_104, zl_108, zl_114, zl_120, zl_122, zl_126, zl_132, zl_180, zl_181, zl_186, zl_255, zl_900, zl_930, zl_1000, zl_1000000, nI_add, pk_mul, zs_sub, zs_lt, zs_le, zs_eq, zs_inb, zs_cl, zm_eq, zm_eq2, zm_lt, zm_le, mz_lt, mz_le, mm_eq, zs_bit, zs_or1, zs_div, zs_rem, ck_pos, if_pos, if_neg, true_or, or_true, true_and, and_true, false_or, or_false, false_and, and_false, not_true, not_false_iff, if_true, if_false, eq_self, Bool.false_eq_true, cl2_id, Bool.not_true, Bool.not_false]
  | succ j ih =>
    intro k n q hk hn
    obtain ⟨n, rfl⟩ : ∃ n', n = n' + 1 := ⟨n - 1, by omega⟩
    rw [fX11_bits_4, z_ct]
    simp (disch := omega) only [cl2_so, cl1_so, ck_tr, zl_0, zl_1, zl_2, zl_3, zl_4, zl_5, zl_6, zl_7, zl_8, zl_9, zl_10, zl_11, zl_12, zl_15, zl_16, zl_20, zl_24, zl_25, zl_30, zl_31, zl_32, zl_33, zl_44, zl_48, zl_50, zl_57, zl_59, zl_60, zl_61, zl_62, zl_63, zl_64, zl_68, zl_97, zl_99, zl_100, zl_104, zl_108, zl_114, zl_120, zl_122, zl_126, zl_132, zl_180, zl_181, zl_186, zl_255, zl_900, zl_930, zl_1000, zl_1000000, nI_add, pk_mul, zs_sub, zs_lt, zs_le, zs_eq, zs_inb, zs_cl, zm_eq, zm_eq2, zm_lt, zm_le, mz_lt, mz_le, mm_eq, zs_bit, zs_or1, zs_div, zs_rem, ck_pos, if_pos, if_neg, true_or, or_true, true_and, and_true, false_or, or_false, false_and, and_false, not_true, not_false_iff, if_true, if_false, eq_self, Bool.false_eq_true, cl2_id, Bool.not_true, Bool.not_false]
    rw [ih (k + 1) n _ (by omega) (by omega)]
    congr 3
    omega
theorem fX11_bits_e {x : Nat} (hx : x < 1024) (m : Me) : fX11_bits (nI x) m = some (nI (pcn x), m) := by
  have e := bi4 (m := m) hx 10 0 FU 0 (by omega) (FU_pos (by omega))
  rw [Nat.zero_add] at e
  exact e
def zsv (g : Nat → Bool) : Nat → Nat → Option Nat → Option Nat
  | _, 0, b => b
  | k, j + 1, none => zsv g (k + 1) j (if g k then some k else none)
  | k, j + 1, some b => zsv g (k + 1) j (if pcn k < pcn b && g k then some k else some b)
def svg (r s : Nat → Nat) (w side op k : Nat) : Bool := decide (k &&& s 60 = 0) && rd (z_word r w) (zT r s side op (s 60 ||| k))
def svF : Option Nat → Int32
  | none => nI 11
  | some b => nI (pcn b)
def svP : Option Nat → Int32
  | none => -nI 2
  | some b => nI b
def svA (x : Int32) : Option Nat → Int32
  | none => -nI 2
  | some b => if x = nI 0 then nI (pcn b) else nI b
theorem zsv_lt (g : Nat → Bool) : ∀ j k b, (∀ c, b = some c → c < 1024) → k + j ≤ 1024 → ∀ c, zsv g k j b = some c → c < 1024
  | 0, k, b, h, _, c, e => h c e
  | j + 1, k, none, h, hk, c, e => by
    rw [zsv] at e
    refine zsv_lt g j (k + 1) _ ?_ (by omega) c e
    intro c hc
    split at hc
    · have := Option.some.inj hc; omega
    · cases hc
  | j + 1, k, some b, h, hk, c, e => by
    rw [zsv] at e
    refine zsv_lt g j (k + 1) _ ?_ (by omega) c e
    intro c hc
    split at hc
    · have := Option.some.inj hc; omega
    · exact h c hc
section C12
variable {m : Me} {H : Bool} {t : Nat} {r s : Nat → Nat} {x1 x2 x3 x4 : Int32}
theorem p10 (hO : KO r s) : 2 ^ r 0 ≤ 1024 := Nat.le_trans (Nat.pow_le_pow_right (by decide) hO.1.1.2.1) (by decide)
theorem or10 {a b : Nat} (ha : a < 1024) (hb : b < 1024) : a ||| b < 1024 := Nat.or_lt_two_pow (n := 10) ha hb
theorem and10 {a b : Nat} (ha : a < 1024) : a &&& b < 1024 := Nat.lt_of_le_of_lt Nat.and_le_left ha
theorem fb11 (hO : KO r s) {w side op : Nat} (hw : w < r 5) (hs : side ≤ 1) (ho : op ≤ z_mo r) : ∀ j k n b (m : Me), KC m t r s → k + j = 2 ^ r 0 → j < n → (∀ c, b = some c → c < 1024) → ∃ m', fX10_fewestToBreak_11 n (t + 7 + 2 * w) (nI side) (nI op) (svP b) (svF b) (nI k) m = some (svP (zsv (svg r s w side op) k j b), m') ∧ Ak sC m m' ∧ KC m' t r s := by
  have hp := p10 hO
  have h10 := hO.1.1.2.1
  have h5 := hO.1.2.2.2.1
  generalize hN : 2 ^ r 0 = N at hp
  have esh : nI 1 <<< (nI (r 0) &&& nI 31) = nI N := by rw [zs_sh1 (by omega), hN]
  intro j
  induction j with
  | zero =>
    intro k n b m h hk hn hb
    obtain ⟨n, rfl⟩ : ∃ n', n = n' + 1 := ⟨n - 1, by omega⟩
    refine ⟨m, ?_, Ak.rf m, h⟩
    have e0 := h.2.2.1.1.1
    rw [fX10_fewestToBreak_11, zsv]
    simp (disch := omega) only [h.1, e0, esh, cl2_so, cl1_so, ck_tr, zl_0, zl_1, zl_2, zl_3, zl_4, zl_5, zl_6, zl_7, zl_8, zl_9, zl_10, zl_11, zl_12, zl_15, zl_16, zl_20, zl_24, zl_25, zl_30, zl_31, zl_32, zl_33, zl_44, zl_48, zl_50, zl_57, zl_59, zl_60, zl_61, zl_62, zl_63, zl_64, zl_68, zl_97, zl_99, zl_100, zl_104, zl_108, zl_114, zl_120, zl_122, zl_126, zl_132, zl_180, zl_181, zl_186, zl_255, zl_900, zl_930, zl_1000, zl_1000000, nI_add, pk_mul, zs_sub, zs_lt, zs_le, zs_eq, zs_inb, zs_cl, zm_eq, zm_eq2, zm_lt, zm_le, mz_lt, mz_le, mm_eq, zs_bit, zs_or1, zs_div, zs_rem, ck_pos, if_pos, if_neg, true_or, or_true, true_and, and_true, false_or, or_false, false_and, and_false, not_true, not_false_iff, if_true, if_false, eq_self, Bool.false_eq_true, cl2_id, Bool.not_true, Bool.not_false]
  | succ j ih =>
    intro k n b m h hk hn hb
    obtain ⟨n, rfl⟩ : ∃ n', n = n' + 1 := ⟨n - 1, by omega⟩
    have e0 := h.2.2.1.1.1
    have e1 := h.2.2.2.1.2.1
    have ht := h.tt
    have hor := or10 hO.s60 (show k < 1024 by omega)
    have hand := and10 (b := s 60) (show k < 1024 by omega)
    have hpk := pcn_le k
    obtain ⟨m1, e2, a1, b1, -⟩ := h.isRead2 hO (br := s 60 ||| k) (side := side) (op := op) (word_ok hO.1 hw) (h.word hw) (by omega) hs ho hor
    rw [fX10_fewestToBreak_11]
    unfold fX10_fewestToBreak_79
    have hg' : svg r s w side op k = (decide (k &&& s 60 = 0) && rd (z_word r w) (zT r s side op (s 60 ||| k))) := rfl
    by_cases hz : k &&& s 60 = 0
    · rw [decide_eq_true hz, Bool.true_and] at hg'
      cases b with
      | none =>
        rw [zsv, hg']
        cases hg : rd (z_word r w) (zT r s side op (s 60 ||| k))
        · obtain ⟨m2, f1, f2, f3⟩ := ih (k + 1) n none m1 b1 (by omega) (by omega) hb
          refine ⟨m2, ?_, a1.tr f2, f3⟩
          simp only [svP, svF] at f1 ⊢
          simp (disch := omega) only [h.1, e0, esh, e1, nI_andN k (s 60), hz, bc_e (show k < 1024 by omega), nI_orN (s 60) k, e2, hg, cl2_so, cl1_so, ck_tr, zl_0, zl_1, zl_2, zl_3, zl_4, zl_5, zl_6, zl_7, zl_8, zl_9, zl_10, zl_11, zl_12, zl_15, zl_16, zl_20, zl_24, zl_25, zl_30, zl_31, zl_32, zl_33, zl_44, zl_48, zl_50, zl_57, zl_59, zl_60, zl_61, zl_62, zl_63, zl_64, zl_68, zl_97, zl_99, zl_100, zl_104, zl_108, zl_114, zl_120, zl_122, zl_126, zl_132, zl_180, zl_181, zl_186, zl_255, zl_900, zl_930, zl_1000, zl_1000000, nI_add, pk_mul, zs_sub, zs_lt, zs_le, zs_eq, zs_inb, zs_cl, zm_eq, zm_eq2, zm_lt, zm_le, mz_lt, mz_le, mm_eq, zs_bit, zs_or1, zs_div, zs_rem, ck_pos, if_pos, if_neg, true_or, or_true, true_and, and_true, false_or, or_false, false_and, and_false, not_true, not_false_iff, if_true, if_false, eq_self, Bool.false_eq_true, cl2_id, Bool.not_true, Bool.not_false]
          exact f1
        · obtain ⟨m2, f1, f2, f3⟩ := ih (k + 1) n (some k) m1 b1 (by omega) (by omega) (fun c hc => by have := Option.some.inj hc; omega)
          refine ⟨m2, ?_, a1.tr f2, f3⟩
          simp only [svP, svF] at f1 ⊢
          simp (disch := omega) only [h.1, e0, esh, e1, nI_andN k (s 60), hz, bc_e (show k < 1024 by omega), nI_orN (s 60) k, e2, hg, cl2_so, cl1_so, ck_tr, zl_0, zl_1, zl_2, zl_3, zl_4, zl_5, zl_6, zl_7, zl_8, zl_9, zl_10, zl_11, zl_12, zl_15, zl_16, zl_20, zl_24, zl_25, zl_30, zl_31, zl_32, zl_33, zl_44, zl_48, zl_50, zl_57, zl_59, zl_60, zl_61, zl_62, zl_63, zl_64, zl_68, zl_97, zl_99, zl_100, zl_104, zl_108, zl_114, zl_120, zl_122, zl_126, zl_132, zl_180, zl_181, zl_186, zl_255, zl_900, zl_930, zl_1000, zl_1000000, nI_add, pk_mul, zs_sub, zs_lt, zs_le, zs_eq, zs_inb, zs_cl, zm_eq, zm_eq2, zm_lt, zm_le, mz_lt, mz_le, mm_eq, zs_bit, zs_or1, zs_div, zs_rem, ck_pos, if_pos, if_neg, true_or, or_true, true_and, and_true, false_or, or_false, false_and, and_false, not_true, not_false_iff, if_true, if_false, eq_self, Bool.false_eq_true, cl2_id, Bool.not_true, Bool.not_false]
          exact f1
      | some b =>
        have hpb := pcn_le b
        rw [zsv, hg']
        by_cases hq : pcn k < pcn b
        · rw [decide_eq_true hq, Bool.true_and]
          cases hg : rd (z_word r w) (zT r s side op (s 60 ||| k))
          · obtain ⟨m2, f1, f2, f3⟩ := ih (k + 1) n (some b) m1 b1 (by omega) (by omega) hb
            refine ⟨m2, ?_, a1.tr f2, f3⟩
            simp only [svP, svF] at f1 ⊢
            simp (disch := omega) only [h.1, e0, esh, e1, nI_andN k (s 60), hz, bc_e (show k < 1024 by omega), nI_orN (s 60) k, e2, hg, cl2_so, cl1_so, ck_tr, zl_0, zl_1, zl_2, zl_3, zl_4, zl_5, zl_6, zl_7, zl_8, zl_9, zl_10, zl_11, zl_12, zl_15, zl_16, zl_20, zl_24, zl_25, zl_30, zl_31, zl_32, zl_33, zl_44, zl_48, zl_50, zl_57, zl_59, zl_60, zl_61, zl_62, zl_63, zl_64, zl_68, zl_97, zl_99, zl_100, zl_104, zl_108, zl_114, zl_120, zl_122, zl_126, zl_132, zl_180, zl_181, zl_186, zl_255, zl_900, zl_930, zl_1000, zl_1000000, nI_add, pk_mul, zs_sub, zs_lt, zs_le, zs_eq, zs_inb, zs_cl, zm_eq, zm_eq2, zm_lt, zm_le, mz_lt, mz_le, mm_eq, zs_bit, zs_or1, zs_div, zs_rem, ck_pos, if_pos, if_neg, true_or, or_true, true_and, and_true, false_or, or_false, false_and, and_false, not_true, not_false_iff, if_true, if_false, eq_self, Bool.false_eq_true, cl2_id, Bool.not_true, Bool.not_false]
            exact f1
          · obtain ⟨m2, f1, f2, f3⟩ := ih (k + 1) n (some k) m1 b1 (by omega) (by omega) (fun c hc => by have := Option.some.inj hc; omega)
            refine ⟨m2, ?_, a1.tr f2, f3⟩
            simp only [svP, svF] at f1 ⊢
            simp (disch := omega) only [h.1, e0, esh, e1, nI_andN k (s 60), hz, bc_e (show k < 1024 by omega), nI_orN (s 60) k, e2, hg, cl2_so, cl1_so, ck_tr, zl_0, zl_1, zl_2, zl_3, zl_4, zl_5, zl_6, zl_7, zl_8, zl_9, zl_10, zl_11, zl_12, zl_15, zl_16, zl_20, zl_24, zl_25, zl_30, zl_31, zl_32, zl_33, zl_44, zl_48, zl_50, zl_57, zl_59, zl_60, zl_61, zl_62, zl_63, zl_64, zl_68, zl_97, zl_99, zl_100, zl_104, zl_108, zl_114, zl_120, zl_122, zl_126, zl_132, zl_180, zl_181, zl_186, zl_255, zl_900, zl_930, zl_1000, zl_1000000, nI_add, pk_mul, zs_sub, zs_lt, zs_le, zs_eq, zs_inb, zs_cl, zm_eq, zm_eq2, zm_lt, zm_le, mz_lt, mz_le, mm_eq, zs_bit, zs_or1, zs_div, zs_rem, ck_pos, if_pos, if_neg, true_or, or_true, true_and, and_true, false_or, or_false, false_and, and_false, not_true, not_false_iff, if_true, if_false, eq_self, Bool.false_eq_true, cl2_id, Bool.not_true, Bool.not_false]
            exact f1
        · rw [decide_eq_false hq, Bool.false_and, if_neg (show ¬ false = true by decide)]
          obtain ⟨m2, f1, f2, f3⟩ := ih (k + 1) n (some b) m h (by omega) (by omega) hb
          refine ⟨m2, ?_, f2, f3⟩
          simp only [svP, svF] at f1 ⊢
          simp (disch := omega) only [h.1, e0, esh, e1, nI_andN k (s 60), hz, bc_e (show k < 1024 by omega), cl2_so, cl1_so, ck_tr, zl_0, zl_1, zl_2, zl_3, zl_4, zl_5, zl_6, zl_7, zl_8, zl_9, zl_10, zl_11, zl_12, zl_15, zl_16, zl_20, zl_24, zl_25, zl_30, zl_31, zl_32, zl_33, zl_44, zl_48, zl_50, zl_57, zl_59, zl_60, zl_61, zl_62, zl_63, zl_64, zl_68, zl_97, zl_99, zl_100, zl_104, zl_108, zl_114, zl_120, zl_122, zl_126, zl_132, zl_180, zl_181, zl_186, zl_255, zl_900, zl_930, zl_1000, zl_1000000, nI_add, pk_mul, zs_sub, zs_lt, zs_le, zs_eq, zs_inb, zs_cl, zm_eq, zm_eq2, zm_lt, zm_le, mz_lt, mz_le, mm_eq, zs_bit, zs_or1, zs_div, zs_rem, ck_pos, if_pos, if_neg, true_or, or_true, true_and, and_true, false_or, or_false, false_and, and_false, not_true, not_false_iff, if_true, if_false, eq_self, Bool.false_eq_true, cl2_id, Bool.not_true, Bool.not_false]
          exact f1
    · rw [decide_eq_false hz, Bool.false_and] at hg'
      have ez : zsv (svg r s w side op) k (j + 1) b = zsv (svg r s w side op) (k + 1) j b := by
        cases b
        · rw [zsv, hg', if_neg (by decide)]
        · rw [zsv, hg', Bool.and_false, if_neg (by decide)]
      rw [ez]
      obtain ⟨m2, f1, f2, f3⟩ := ih (k + 1) n b m h (by omega) (by omega) hb
      refine ⟨m2, ?_, f2, f3⟩
      simp (disch := omega) only [h.1, e0, esh, e1, nI_andN k (s 60), hz, cl2_so, cl1_so, ck_tr, zl_0, zl_1, zl_2, zl_3, zl_4, zl_5, zl_6, zl_7, zl_8, zl_9, zl_10, zl_11, zl_12, zl_15, zl_16, zl_20, zl_24, zl_25, zl_30, zl_31, zl_32, zl_33, zl_44, zl_48, zl_50, zl_57, zl_59, zl_60, zl_61, zl_62, zl_63, zl_64, zl_68, zl_97, zl_99, zl_100, zl_104, zl_108, zl_114, zl_120, zl_122, zl_126, zl_132, zl_180, zl_181, zl_186, zl_255, zl_900, zl_930, zl_1000, zl_1000000, nI_add, pk_mul, zs_sub, zs_lt, zs_le, zs_eq, zs_inb, zs_cl, zm_eq, zm_eq2, zm_lt, zm_le, mz_lt, mz_le, mm_eq, zs_bit, zs_or1, zs_div, zs_rem, ck_pos, if_pos, if_neg, true_or, or_true, true_and, and_true, false_or, or_false, false_and, and_false, not_true, not_false_iff, if_true, if_false, eq_self, Bool.false_eq_true, cl2_id, Bool.not_true, Bool.not_false]
      exact f1
theorem sv32 (hO : KO r s) {w side op : Nat} (hw : w < r 5) (hs : side ≤ 1) (ho : op ≤ z_mo r) : ∀ j k n b (m : Me), KM m r s → k + j = 2 ^ r 0 → j < n → (∀ c, b = some c → c < 1024) → ∃ m', fX11_sever_32 n (nI w) (nI side) (nI op) x4 (svP b) (nI k) m = some (svA x4 (zsv (svg r s w side op) k j b), m') ∧ Ak sN m m' := by
  have hp := p10 hO
  have h10 := hO.1.1.2.1
  have h5 := hO.1.2.2.2.1
  obtain ⟨-, w8, -⟩ := hO.1.2.2.2.2.2.2.2.1 w hw
  generalize hN : 2 ^ r 0 = N at hp
  have esh : nI 1 <<< (nI (r 0) &&& nI 31) = nI N := by rw [zs_sh1 (by omega), hN]
  intro j
  induction j with
  | zero =>
    intro k n b m h hk hn hb
    obtain ⟨n, rfl⟩ : ∃ n', n = n' + 1 := ⟨n - 1, by omega⟩
    refine ⟨m, ?_, Ak.rf m⟩
    have e0 := h.2.1 0 (by omega)
    rw [fX11_sever_32, zsv]
    unfold fX11_sever_153
    cases b with
    | none =>
      simp only [svP, svA]
      simp (disch := omega) only [e0, esh, cl2_so, cl1_so, ck_tr, zl_0, zl_1, zl_2, zl_3, zl_4, zl_5, zl_6, zl_7, zl_8, zl_9, zl_10, zl_11, zl_12, zl_15, zl_16, zl_20, zl_24, zl_25, zl_30, zl_31, zl_32, zl_33, zl_44, zl_48, zl_50, zl_57, zl_59, zl_60, zl_61, zl_62, zl_63, zl_64, zl_68, zl_97, zl_99, zl_100, zl_104, zl_108, zl_114, zl_120, zl_122, zl_126, zl_132, zl_180, zl_181, zl_186, zl_255, zl_900, zl_930, zl_1000, zl_1000000, nI_add, pk_mul, zs_sub, zs_lt, zs_le, zs_eq, zs_inb, zs_cl, zm_eq, zm_eq2, zm_lt, zm_le, mz_lt, mz_le, mm_eq, zs_bit, zs_or1, zs_div, zs_rem, ck_pos, if_pos, if_neg, true_or, or_true, true_and, and_true, false_or, or_false, false_and, and_false, not_true, not_false_iff, if_true, if_false, eq_self, Bool.false_eq_true, cl2_id, Bool.not_true, Bool.not_false]
    | some b =>
      have hb' := hb b rfl
      simp only [svP, svA]
      by_cases hx : x4 = nI 0
      · simp (disch := omega) only [e0, esh, hx, fX11_bits_e hb', cl2_so, cl1_so, ck_tr, zl_0, zl_1, zl_2, zl_3, zl_4, zl_5, zl_6, zl_7, zl_8, zl_9, zl_10, zl_11, zl_12, zl_15, zl_16, zl_20, zl_24, zl_25, zl_30, zl_31, zl_32, zl_33, zl_44, zl_48, zl_50, zl_57, zl_59, zl_60, zl_61, zl_62, zl_63, zl_64, zl_68, zl_97, zl_99, zl_100, zl_104, zl_108, zl_114, zl_120, zl_122, zl_126, zl_132, zl_180, zl_181, zl_186, zl_255, zl_900, zl_930, zl_1000, zl_1000000, nI_add, pk_mul, zs_sub, zs_lt, zs_le, zs_eq, zs_inb, zs_cl, zm_eq, zm_eq2, zm_lt, zm_le, mz_lt, mz_le, mm_eq, zs_bit, zs_or1, zs_div, zs_rem, ck_pos, if_pos, if_neg, true_or, or_true, true_and, and_true, false_or, or_false, false_and, and_false, not_true, not_false_iff, if_true, if_false, eq_self, Bool.false_eq_true, cl2_id, Bool.not_true, Bool.not_false]
      · simp (disch := omega) only [e0, esh, hx, cl2_so, cl1_so, ck_tr, zl_0, zl_1, zl_2, zl_3, zl_4, zl_5, zl_6, zl_7, zl_8, zl_9, zl_10, zl_11, zl_12, zl_15, zl_16, zl_20, zl_24, zl_25, zl_30, zl_31, zl_32, zl_33, zl_44, zl_48, zl_50, zl_57, zl_59, zl_60, zl_61, zl_62, zl_63, zl_64, zl_68, zl_97, zl_99, zl_100, zl_104, zl_108, zl_114, zl_120, zl_122, zl_126, zl_132, zl_180, zl_181, zl_186, zl_255, zl_900, zl_930, zl_1000, zl_1000000, nI_add, pk_mul, zs_sub, zs_lt, zs_le, zs_eq, zs_inb, zs_cl, zm_eq, zm_eq2, zm_lt, zm_le, mz_lt, mz_le, mm_eq, zs_bit, zs_or1, zs_div, zs_rem, ck_pos, if_pos, if_neg, true_or, or_true, true_and, and_true, false_or, or_false, false_and, and_false, not_true, not_false_iff, if_true, if_false, eq_self, Bool.false_eq_true, cl2_id, Bool.not_true, Bool.not_false]
  | succ j ih =>
    intro k n b m h hk hn hb
    obtain ⟨n, rfl⟩ : ∃ n', n = n' + 1 := ⟨n - 1, by omega⟩
    have e0 := h.2.1 0 (by omega)
    have e1 := h.2.2 60 (by omega)
    have e3 := h.2.1 (10 + w) (by omega)
    have hor := or10 hO.s60 (show k < 1024 by omega)
    have hand := and10 (b := s 60) (show k < 1024 by omega)
    have hpk := pcn_le k
    obtain ⟨m1, e2, a1, b1, -⟩ := h.reads hO (fr := 16 + 8 * w) (many := r (10 + w)) (br := s 60 ||| k) hs ho hor (by omega)
    have e2' : fX11_readsOf (nI (16 + 8 * w)) (nI (r (10 + w))) (nI side) (nI op) (nI (s 60 ||| k)) m = some (nI (z_rdN (z_word r w) (zT r s side op (s 60 ||| k))), m1) := e2
    have hbd2 : z_rdN (z_word r w) (zT r s side op (s 60 ||| k)) ≤ 30 := Nat.le_trans (z_ct_le _ _ _) (zT_30 hO _ ho)
    rw [fX11_sever_32]
    unfold fX11_sever_81 fX11_sever_120
    have hg' : svg r s w side op k = (decide (k &&& s 60 = 0) && rd (z_word r w) (zT r s side op (s 60 ||| k))) := rfl
    by_cases hz : k &&& s 60 = 0
    · rw [decide_eq_true hz, Bool.true_and] at hg'
      cases b with
      | none =>
        rw [zsv, hg']
        cases hg : rd (z_word r w) (zT r s side op (s 60 ||| k))
        · have hr0 := rd_0 hg
          obtain ⟨m2, f1, f2⟩ := ih (k + 1) n none m1 b1 (by omega) (by omega) hb
          refine ⟨m2, ?_, a1.tr f2⟩
          simp only [svP] at f1 ⊢
          simp (disch := omega) only [e0, esh, e1, nI_andN k (s 60), hz, nI_orN (s 60) k, e3, e2', hr0, cl2_so, cl1_so, ck_tr, zl_0, zl_1, zl_2, zl_3, zl_4, zl_5, zl_6, zl_7, zl_8, zl_9, zl_10, zl_11, zl_12, zl_15, zl_16, zl_20, zl_24, zl_25, zl_30, zl_31, zl_32, zl_33, zl_44, zl_48, zl_50, zl_57, zl_59, zl_60, zl_61, zl_62, zl_63, zl_64, zl_68, zl_97, zl_99, zl_100, zl_104, zl_108, zl_114, zl_120, zl_122, zl_126, zl_132, zl_180, zl_181, zl_186, zl_255, zl_900, zl_930, zl_1000, zl_1000000, nI_add, pk_mul, zs_sub, zs_lt, zs_le, zs_eq, zs_inb, zs_cl, zm_eq, zm_eq2, zm_lt, zm_le, mz_lt, mz_le, mm_eq, zs_bit, zs_or1, zs_div, zs_rem, ck_pos, if_pos, if_neg, true_or, or_true, true_and, and_true, false_or, or_false, false_and, and_false, not_true, not_false_iff, if_true, if_false, eq_self, Bool.false_eq_true, cl2_id, Bool.not_true, Bool.not_false]
          exact f1
        · have hr0 := rd_1 hg
          obtain ⟨m2, f1, f2⟩ := ih (k + 1) n (some k) m1 b1 (by omega) (by omega) (fun c hc => by have := Option.some.inj hc; omega)
          refine ⟨m2, ?_, a1.tr f2⟩
          simp only [svP] at f1 ⊢
          simp (disch := omega) only [e0, esh, e1, nI_andN k (s 60), hz, nI_orN (s 60) k, e3, e2', cl2_so, cl1_so, ck_tr, zl_0, zl_1, zl_2, zl_3, zl_4, zl_5, zl_6, zl_7, zl_8, zl_9, zl_10, zl_11, zl_12, zl_15, zl_16, zl_20, zl_24, zl_25, zl_30, zl_31, zl_32, zl_33, zl_44, zl_48, zl_50, zl_57, zl_59, zl_60, zl_61, zl_62, zl_63, zl_64, zl_68, zl_97, zl_99, zl_100, zl_104, zl_108, zl_114, zl_120, zl_122, zl_126, zl_132, zl_180, zl_181, zl_186, zl_255, zl_900, zl_930, zl_1000, zl_1000000, nI_add, pk_mul, zs_sub, zs_lt, zs_le, zs_eq, zs_inb, zs_cl, zm_eq, zm_eq2, zm_lt, zm_le, mz_lt, mz_le, mm_eq, zs_bit, zs_or1, zs_div, zs_rem, ck_pos, if_pos, if_neg, true_or, or_true, true_and, and_true, false_or, or_false, false_and, and_false, not_true, not_false_iff, if_true, if_false, eq_self, Bool.false_eq_true, cl2_id, Bool.not_true, Bool.not_false]
          exact f1
      | some b =>
        have hpb := pcn_le b
        have hb' := hb b rfl
        rw [zsv, hg']
        by_cases hq : pcn k < pcn b
        · rw [decide_eq_true hq, Bool.true_and]
          cases hg : rd (z_word r w) (zT r s side op (s 60 ||| k))
          · have hr0 := rd_0 hg
            obtain ⟨m2, f1, f2⟩ := ih (k + 1) n (some b) m1 b1 (by omega) (by omega) hb
            refine ⟨m2, ?_, a1.tr f2⟩
            simp only [svP] at f1 ⊢
            simp (disch := omega) only [e0, esh, e1, nI_andN k (s 60), hz, fX11_bits_e (show k < 1024 by omega), fX11_bits_e hb', nI_orN (s 60) k, e3, e2', hr0, cl2_so, cl1_so, ck_tr, zl_0, zl_1, zl_2, zl_3, zl_4, zl_5, zl_6, zl_7, zl_8, zl_9, zl_10, zl_11, zl_12, zl_15, zl_16, zl_20, zl_24, zl_25, zl_30, zl_31, zl_32, zl_33, zl_44, zl_48, zl_50, zl_57, zl_59, zl_60, zl_61, zl_62, zl_63, zl_64, zl_68, zl_97, zl_99, zl_100, zl_104, zl_108, zl_114, zl_120, zl_122, zl_126, zl_132, zl_180, zl_181, zl_186, zl_255, zl_900, zl_930, zl_1000, zl_1000000, nI_add, pk_mul, zs_sub, zs_lt, zs_le, zs_eq, zs_inb, zs_cl, zm_eq, zm_eq2, zm_lt, zm_le, mz_lt, mz_le, mm_eq, zs_bit, zs_or1, zs_div, zs_rem, ck_pos, if_pos, if_neg, true_or, or_true, true_and, and_true, false_or, or_false, false_and, and_false, not_true, not_false_iff, if_true, if_false, eq_self, Bool.false_eq_true, cl2_id, Bool.not_true, Bool.not_false]
            exact f1
          · have hr0 := rd_1 hg
            obtain ⟨m2, f1, f2⟩ := ih (k + 1) n (some k) m1 b1 (by omega) (by omega) (fun c hc => by have := Option.some.inj hc; omega)
            refine ⟨m2, ?_, a1.tr f2⟩
            simp only [svP] at f1 ⊢
            simp (disch := omega) only [e0, esh, e1, nI_andN k (s 60), hz, fX11_bits_e (show k < 1024 by omega), fX11_bits_e hb', nI_orN (s 60) k, e3, e2', cl2_so, cl1_so, ck_tr, zl_0, zl_1, zl_2, zl_3, zl_4, zl_5, zl_6, zl_7, zl_8, zl_9, zl_10, zl_11, zl_12, zl_15, zl_16, zl_20, zl_24, zl_25, zl_30, zl_31, zl_32, zl_33, zl_44, zl_48, zl_50, zl_57, zl_59, zl_60, zl_61, zl_62, zl_63, zl_64, zl_68, zl_97, zl_99, zl_100, zl_104, zl_108, zl_114, zl_120, zl_122, zl_126, zl_132, zl_180, zl_181, zl_186, zl_255, zl_900, zl_930, zl_1000, zl_1000000, nI_add, pk_mul, zs_sub, zs_lt, zs_le, zs_eq, zs_inb, zs_cl, zm_eq, zm_eq2, zm_lt, zm_le, mz_lt, mz_le, mm_eq, zs_bit, zs_or1, zs_div, zs_rem, ck_pos, if_pos, if_neg, true_or, or_true, true_and, and_true, false_or, or_false, false_and, and_false, not_true, not_false_iff, if_true, if_false, eq_self, Bool.false_eq_true, cl2_id, Bool.not_true, Bool.not_false]
            exact f1
        · rw [decide_eq_false hq, Bool.false_and, if_neg (show ¬ false = true by decide)]
          obtain ⟨m2, f1, f2⟩ := ih (k + 1) n (some b) m h (by omega) (by omega) hb
          refine ⟨m2, ?_, f2⟩
          simp only [svP] at f1 ⊢
          simp (disch := omega) only [e0, esh, e1, nI_andN k (s 60), hz, fX11_bits_e (show k < 1024 by omega), fX11_bits_e hb', cl2_so, cl1_so, ck_tr, zl_0, zl_1, zl_2, zl_3, zl_4, zl_5, zl_6, zl_7, zl_8, zl_9, zl_10, zl_11, zl_12, zl_15, zl_16, zl_20, zl_24, zl_25, zl_30, zl_31, zl_32, zl_33, zl_44, zl_48, zl_50, zl_57, zl_59, zl_60, zl_61, zl_62, zl_63, zl_64, zl_68, zl_97, zl_99, zl_100, zl_104, zl_108, zl_114, zl_120, zl_122, zl_126, zl_132, zl_180, zl_181, zl_186, zl_255, zl_900, zl_930, zl_1000, zl_1000000, nI_add, pk_mul, zs_sub, zs_lt, zs_le, zs_eq, zs_inb, zs_cl, zm_eq, zm_eq2, zm_lt, zm_le, mz_lt, mz_le, mm_eq, zs_bit, zs_or1, zs_div, zs_rem, ck_pos, if_pos, if_neg, true_or, or_true, true_and, and_true, false_or, or_false, false_and, and_false, not_true, not_false_iff, if_true, if_false, eq_self, Bool.false_eq_true, cl2_id, Bool.not_true, Bool.not_false]
          exact f1
    · rw [decide_eq_false hz, Bool.false_and] at hg'
      have ez : zsv (svg r s w side op) k (j + 1) b = zsv (svg r s w side op) (k + 1) j b := by
        cases b
        · rw [zsv, hg', if_neg (by decide)]
        · rw [zsv, hg', Bool.and_false, if_neg (by decide)]
      rw [ez]
      obtain ⟨m2, f1, f2⟩ := ih (k + 1) n b m h (by omega) (by omega) hb
      refine ⟨m2, ?_, f2⟩
      simp (disch := omega) only [e0, esh, e1, nI_andN k (s 60), hz, cl2_so, cl1_so, ck_tr, zl_0, zl_1, zl_2, zl_3, zl_4, zl_5, zl_6, zl_7, zl_8, zl_9, zl_10, zl_11, zl_12, zl_15, zl_16, zl_20, zl_24, zl_25, zl_30, zl_31, zl_32, zl_33, zl_44, zl_48, zl_50, zl_57, zl_59, zl_60, zl_61, zl_62, zl_63, zl_64, zl_68, zl_97, zl_99, zl_100, zl_104, zl_108, zl_114, zl_120, zl_122, zl_126, zl_132, zl_180, zl_181, zl_186, zl_255, zl_900, zl_930, zl_1000, zl_1000000, nI_add, pk_mul, zs_sub, zs_lt, zs_le, zs_eq, zs_inb, zs_cl, zm_eq, zm_eq2, zm_lt, zm_le, mz_lt, mz_le, mm_eq, zs_bit, zs_or1, zs_div, zs_rem, ck_pos, if_pos, if_neg, true_or, or_true, true_and, and_true, false_or, or_false, false_and, and_false, not_true, not_false_iff, if_true, if_false, eq_self, Bool.false_eq_true, cl2_id, Bool.not_true, Bool.not_false]
      exact f1
theorem b_sever (hI : Inv m) (hC : JC m H r s) (hM : JM m H r s) (hO : JO H r s) : Both (fX10_sever x1 x2 x3 x4) (fX11_sever x1 x2 x3 x4) m := by
  have hle := vr_le H r x1 x2 x3
  by_cases hv : vr H r x1 x2 x3 = 0
  · obtain ⟨rfl, w, side, op, hw, a, b, rfl, rfl, rfl⟩ := vr_out hO hv
    have hK : KO r s := hO rfl
    have h5 := hK.1.2.2.2.1
    have hp := p10 hK
    obtain ⟨m', e, g1, g2⟩ := fb11 hK hw a b (2 ^ r 0) 0 FU none m (hC.kc hI) (by omega) (FU_pos (by omega)) (fun c hc => by cases hc)
    have hlt := zsv_lt (svg r s w side op) (2 ^ r 0) 0 none (fun c hc => by cases hc) (by omega)
    refine ⟨svA x4 (zsv (svg r s w side op) 0 (2 ^ r 0) none), 0, ?_, fun m1 h1 => ?_⟩
    · unfold fX10_sever fX10_sever_51 fX10_sever_61 fX10_fewestToBreak
      generalize zsv (svg r s w side op) 0 (2 ^ r 0) none = z at e hlt ⊢
      simp only [svP, svF] at e
      cases z with
      | none =>
        simp only [svA] at e ⊢
        by_cases hx : x4 = nI 0
        · simp (disch := omega) only [fX10_wrongReading_e hC hO, hv, (hC.kc hI).1, e, hx, cl2_so, cl1_so, ck_tr, zl_0, zl_1, zl_2, zl_3, zl_4, zl_5, zl_6, zl_7, zl_8, zl_9, zl_10, zl_11, zl_12, zl_15, zl_16, zl_20, zl_24, zl_25, zl_30, zl_31, zl_32, zl_33, zl_44, zl_48, zl_50, zl_57, zl_59, zl_60, zl_61, zl_62, zl_63, zl_64, zl_68, zl_97, zl_99, zl_100, zl_104, zl_108, zl_114, zl_120, zl_122, zl_126, zl_132, zl_180, zl_181, zl_186, zl_255, zl_900, zl_930, zl_1000, zl_1000000, nI_add, pk_mul, zs_sub, zs_lt, zs_le, zs_eq, zs_inb, zs_cl, zm_eq, zm_eq2, zm_lt, zm_le, mz_lt, mz_le, mm_eq, zs_bit, zs_or1, zs_div, zs_rem, ck_pos, if_pos, if_neg, true_or, or_true, true_and, and_true, false_or, or_false, false_and, and_false, not_true, not_false_iff, if_true, if_false, eq_self, Bool.false_eq_true, cl2_id, Bool.not_true, Bool.not_false]
          exact ansC_ok _ g1
        · simp (disch := omega) only [fX10_wrongReading_e hC hO, hv, (hC.kc hI).1, e, hx, cl2_so, cl1_so, ck_tr, zl_0, zl_1, zl_2, zl_3, zl_4, zl_5, zl_6, zl_7, zl_8, zl_9, zl_10, zl_11, zl_12, zl_15, zl_16, zl_20, zl_24, zl_25, zl_30, zl_31, zl_32, zl_33, zl_44, zl_48, zl_50, zl_57, zl_59, zl_60, zl_61, zl_62, zl_63, zl_64, zl_68, zl_97, zl_99, zl_100, zl_104, zl_108, zl_114, zl_120, zl_122, zl_126, zl_132, zl_180, zl_181, zl_186, zl_255, zl_900, zl_930, zl_1000, zl_1000000, nI_add, pk_mul, zs_sub, zs_lt, zs_le, zs_eq, zs_inb, zs_cl, zm_eq, zm_eq2, zm_lt, zm_le, mz_lt, mz_le, mm_eq, zs_bit, zs_or1, zs_div, zs_rem, ck_pos, if_pos, if_neg, true_or, or_true, true_and, and_true, false_or, or_false, false_and, and_false, not_true, not_false_iff, if_true, if_false, eq_self, Bool.false_eq_true, cl2_id, Bool.not_true, Bool.not_false]
          exact ansC_ok _ g1
      | some z =>
        have hz := hlt z rfl
        simp only [svA] at e ⊢
        by_cases hx : x4 = nI 0
        · simp (disch := omega) only [fX10_wrongReading_e hC hO, hv, (hC.kc hI).1, e, hx, bc_e hz, cl2_so, cl1_so, ck_tr, zl_0, zl_1, zl_2, zl_3, zl_4, zl_5, zl_6, zl_7, zl_8, zl_9, zl_10, zl_11, zl_12, zl_15, zl_16, zl_20, zl_24, zl_25, zl_30, zl_31, zl_32, zl_33, zl_44, zl_48, zl_50, zl_57, zl_59, zl_60, zl_61, zl_62, zl_63, zl_64, zl_68, zl_97, zl_99, zl_100, zl_104, zl_108, zl_114, zl_120, zl_122, zl_126, zl_132, zl_180, zl_181, zl_186, zl_255, zl_900, zl_930, zl_1000, zl_1000000, nI_add, pk_mul, zs_sub, zs_lt, zs_le, zs_eq, zs_inb, zs_cl, zm_eq, zm_eq2, zm_lt, zm_le, mz_lt, mz_le, mm_eq, zs_bit, zs_or1, zs_div, zs_rem, ck_pos, if_pos, if_neg, true_or, or_true, true_and, and_true, false_or, or_false, false_and, and_false, not_true, not_false_iff, if_true, if_false, eq_self, Bool.false_eq_true, cl2_id, Bool.not_true, Bool.not_false]
          exact ansC_ok _ g1
        · simp (disch := omega) only [fX10_wrongReading_e hC hO, hv, (hC.kc hI).1, e, hx, cl2_so, cl1_so, ck_tr, zl_0, zl_1, zl_2, zl_3, zl_4, zl_5, zl_6, zl_7, zl_8, zl_9, zl_10, zl_11, zl_12, zl_15, zl_16, zl_20, zl_24, zl_25, zl_30, zl_31, zl_32, zl_33, zl_44, zl_48, zl_50, zl_57, zl_59, zl_60, zl_61, zl_62, zl_63, zl_64, zl_68, zl_97, zl_99, zl_100, zl_104, zl_108, zl_114, zl_120, zl_122, zl_126, zl_132, zl_180, zl_181, zl_186, zl_255, zl_900, zl_930, zl_1000, zl_1000000, nI_add, pk_mul, zs_sub, zs_lt, zs_le, zs_eq, zs_inb, zs_cl, zm_eq, zm_eq2, zm_lt, zm_le, mz_lt, mz_le, mm_eq, zs_bit, zs_or1, zs_div, zs_rem, ck_pos, if_pos, if_neg, true_or, or_true, true_and, and_true, false_or, or_false, false_and, and_false, not_true, not_false_iff, if_true, if_false, eq_self, Bool.false_eq_true, cl2_id, Bool.not_true, Bool.not_false]
          exact ansC_ok _ g1
    · have hM1 := hM.ag (h1.agC.tr (gd_ak m1).agM)
      obtain ⟨m2, e2, f1⟩ := sv32 (x4 := x4) hK hw a b (2 ^ r 0) 0 FU none _ hM1.km (by omega) (FU_pos (by omega)) (fun c hc => by cases hc)
      simp only [svP] at e2
      unfold fX11_sever
      simp (disch := omega) only [gd_e, fX11_wordWhy_e hM1 hO, hv, e2, cl2_so, cl1_so, ck_tr, zl_0, zl_1, zl_2, zl_3, zl_4, zl_5, zl_6, zl_7, zl_8, zl_9, zl_10, zl_11, zl_12, zl_15, zl_16, zl_20, zl_24, zl_25, zl_30, zl_31, zl_32, zl_33, zl_44, zl_48, zl_50, zl_57, zl_59, zl_60, zl_61, zl_62, zl_63, zl_64, zl_68, zl_97, zl_99, zl_100, zl_104, zl_108, zl_114, zl_120, zl_122, zl_126, zl_132, zl_180, zl_181, zl_186, zl_255, zl_900, zl_930, zl_1000, zl_1000000, nI_add, pk_mul, zs_sub, zs_lt, zs_le, zs_eq, zs_inb, zs_cl, zm_eq, zm_eq2, zm_lt, zm_le, mz_lt, mz_le, mm_eq, zs_bit, zs_or1, zs_div, zs_rem, ck_pos, if_pos, if_neg, true_or, or_true, true_and, and_true, false_or, or_false, false_and, and_false, not_true, not_false_iff, if_true, if_false, eq_self, Bool.false_eq_true, cl2_id, Bool.not_true, Bool.not_false]
      exact ansN_ok _ f1
  · refine ⟨-nI 1, vr H r x1 x2 x3, ?_, fun m1 h1 => ?_⟩
    · unfold fX10_sever
      simp (disch := omega) only [fX10_wrongReading_e hC hO, cl2_so, cl1_so, ck_tr, zl_0, zl_1, zl_2, zl_3, zl_4, zl_5, zl_6, zl_7, zl_8, zl_9, zl_10, zl_11, zl_12, zl_15, zl_16, zl_20, zl_24, zl_25, zl_30, zl_31, zl_32, zl_33, zl_44, zl_48, zl_50, zl_57, zl_59, zl_60, zl_61, zl_62, zl_63, zl_64, zl_68, zl_97, zl_99, zl_100, zl_104, zl_108, zl_114, zl_120, zl_122, zl_126, zl_132, zl_180, zl_181, zl_186, zl_255, zl_900, zl_930, zl_1000, zl_1000000, nI_add, pk_mul, zs_sub, zs_lt, zs_le, zs_eq, zs_inb, zs_cl, zm_eq, zm_eq2, zm_lt, zm_le, mz_lt, mz_le, mm_eq, zs_bit, zs_or1, zs_div, zs_rem, ck_pos, if_pos, if_neg, true_or, or_true, true_and, and_true, false_or, or_false, false_and, and_false, not_true, not_false_iff, if_true, if_false, eq_self, Bool.false_eq_true, cl2_id, Bool.not_true, Bool.not_false]
      exact ansC_no _ (Ak.rf m)
    · have hM1 := hM.ag (h1.agC.tr (gd_ak m1).agM)
      unfold fX11_sever
      simp (disch := omega) only [gd_e, fX11_wordWhy_e hM1 hO, cl2_so, cl1_so, ck_tr, zl_0, zl_1, zl_2, zl_3, zl_4, zl_5, zl_6, zl_7, zl_8, zl_9, zl_10, zl_11, zl_12, zl_15, zl_16, zl_20, zl_24, zl_25, zl_30, zl_31, zl_32, zl_33, zl_44, zl_48, zl_50, zl_57, zl_59, zl_60, zl_61, zl_62, zl_63, zl_64, zl_68, zl_97, zl_99, zl_100, zl_104, zl_108, zl_114, zl_120, zl_122, zl_126, zl_132, zl_180, zl_181, zl_186, zl_255, zl_900, zl_930, zl_1000, zl_1000000, nI_add, pk_mul, zs_sub, zs_lt, zs_le, zs_eq, zs_inb, zs_cl, zm_eq, zm_eq2, zm_lt, zm_le, mz_lt, mz_le, mm_eq, zs_bit, zs_or1, zs_div, zs_rem, ck_pos, if_pos, if_neg, true_or, or_true, true_and, and_true, false_or, or_false, false_and, and_false, not_true, not_false_iff, if_true, if_false, eq_self, Bool.false_eq_true, cl2_id, Bool.not_true, Bool.not_false]
      exact ansM_no _ (gd_ak m1)
end C12
