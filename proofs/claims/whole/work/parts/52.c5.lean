/-! mistakes -/
def z_st (u w : List Nat) (p : Nat) : Bool := decide (p + u.length ≤ w.length) && z_al (fun k => decide (u.getD k 0 = w.getD (p + k) 0)) 0 u.length
def eqB (u w : List Nat) : Bool := decide (u.length = w.length) && z_al (fun k => decide (u.getD k 0 = w.getD k 0)) 0 u.length
def z_ex (g : Nat → Bool) : Nat → Nat → Bool
  | _, 0 => false
  | k, j + 1 => g k || z_ex g (k + 1) j
def z_fl (g : Nat → Bool) (f : Nat → Nat) : Nat → Nat → List Nat
  | _, 0 => []
  | k, j + 1 => if g k then f k :: z_fl g f (k + 1) j else z_fl g f (k + 1) j
theorem z_fl_len (g : Nat → Bool) (f : Nat → Nat) : ∀ j k, (z_fl g f k j).length ≤ j
  | 0, k => by simp [z_fl]
  | j + 1, k => by
    have := z_fl_len g f j (k + 1)
    rw [z_fl]
    split
    · simp only [List.length_cons]; omega
    · omega
def LtW (w : List Nat) : Prop := w.length ≤ 8 ∧ ∀ k, k < w.length → w.getD k 0 < 1000
theorem SYok.lt {w : List Nat} (h : SYok w) : LtW w := h.2
def wq (r : Nat → Nat) (w side op i : Nat) : Bool := decide (r (100 + i) = side) && (decide (r (104 + i) = op) && eqB (z_wish r i) (z_word r w))
def wis (r : Nat → Nat) (w side op : Nat) : Bool := z_ex (wq r w side op) 0 (r 6)
section C6
variable {m : Me} {H : Bool} {t : Nat} {r s : Nat → Nat} {x1 x2 x3 x4 : Int32}
theorem si21 {a0 a1 p : Nat} {u w : List Nat} (h0 : SY m a0 u) (h1 : SY m a1 w) (hu : LtW u) (hw : LtW w) (hp : p + u.length ≤ w.length) : ∀ j k n, k + j = u.length → j < n → fX8_standsIn_21 n a0 a1 (nI p) (nI k) m = some (nI (if z_al (fun k => decide (u.getD k 0 = w.getD (p + k) 0)) k j then 1 else 0), m) := by
  have hu8 := hu.1
  have hw8 := hw.1
  intro j
  induction j with
  | zero =>
    intro k n hk hn
    obtain ⟨n, rfl⟩ : ∃ n', n = n' + 1 := ⟨n - 1, by omega⟩
    rw [fX8_standsIn_21, z_al]
    simp (disch := omega) only [h0.1, cl2_so, cl1_so, ck_tr, zl_0, zl_1, zl_2, zl_3, zl_4, zl_5, zl_6, zl_7, zl_8, zl_9, zl_10, zl_11, zl_12, zl_15, zl_16, zl_20, zl_24, zl_25, zl_30, zl_31, zl_32, zl_33, zl_44, zl_48, zl_50, zl_57, zl_59, zl_60, zl_61, zl_62, zl_63, zl_64, zl_68, zl_97, zl_99, zl_100, zl_104, zl_108, zl_114, zl_120, zl_122, zl_126, zl_132, zl_180, zl_181, zl_186, zl_255, zl_900, zl_930, zl_1000, zl_1000000, nI_add, pk_mul, zs_sub, zs_lt, zs_le, zs_eq, zs_inb, zs_cl, zm_eq, zm_eq2, zm_lt, zm_le, mz_lt, mz_le, mm_eq, zs_bit, zs_or1, zs_div, zs_rem, ck_pos, if_pos, if_neg, true_or, or_true, true_and, and_true, false_or, or_false, false_and, and_false, not_true, not_false_iff, if_true, if_false, eq_self, Bool.false_eq_true, cl2_id, Bool.not_true, Bool.not_false]
  | succ j ih =>
    intro k n hk hn
    obtain ⟨n, rfl⟩ : ∃ n', n = n' + 1 := ⟨n - 1, by omega⟩
    rw [fX8_standsIn_21, z_al]
    have b1 := hu.2 k (by omega)
    have b2 := hw.2 (p + k) (by omega)
    by_cases hg : u.getD k 0 = w.getD (p + k) 0
    · rw [decide_eq_true hg, Bool.true_and]
      simp (disch := omega) only [h0.1, h0.2 k (by omega), h1.2 (p + k) (by omega), hg, cl2_so, cl1_so, ck_tr, zl_0, zl_1, zl_2, zl_3, zl_4, zl_5, zl_6, zl_7, zl_8, zl_9, zl_10, zl_11, zl_12, zl_15, zl_16, zl_20, zl_24, zl_25, zl_30, zl_31, zl_32, zl_33, zl_44, zl_48, zl_50, zl_57, zl_59, zl_60, zl_61, zl_62, zl_63, zl_64, zl_68, zl_97, zl_99, zl_100, zl_104, zl_108, zl_114, zl_120, zl_122, zl_126, zl_132, zl_180, zl_181, zl_186, zl_255, zl_900, zl_930, zl_1000, zl_1000000, nI_add, pk_mul, zs_sub, zs_lt, zs_le, zs_eq, zs_inb, zs_cl, zm_eq, zm_eq2, zm_lt, zm_le, mz_lt, mz_le, mm_eq, zs_bit, zs_or1, zs_div, zs_rem, ck_pos, if_pos, if_neg, true_or, or_true, true_and, and_true, false_or, or_false, false_and, and_false, not_true, not_false_iff, if_true, if_false, eq_self, Bool.false_eq_true, cl2_id, Bool.not_true, Bool.not_false]
      exact ih (k + 1) n (by omega) (by omega)
    · rw [decide_eq_false hg, Bool.false_and]
      simp (disch := omega) only [h0.1, h0.2 k (by omega), h1.2 (p + k) (by omega), hg, cl2_so, cl1_so, ck_tr, zl_0, zl_1, zl_2, zl_3, zl_4, zl_5, zl_6, zl_7, zl_8, zl_9, zl_10, zl_11, zl_12, zl_15, zl_16, zl_20, zl_24, zl_25, zl_30, zl_31, zl_32, zl_33, zl_44, zl_48, zl_50, zl_57, zl_59, zl_60, zl_61, zl_62, zl_63, zl_64, zl_68, zl_97, zl_99, zl_100, zl_104, zl_108, zl_114, zl_120, zl_122, zl_126, zl_132, zl_180, zl_181, zl_186, zl_255, zl_900, zl_930, zl_1000, zl_1000000, nI_add, pk_mul, zs_sub, zs_lt, zs_le, zs_eq, zs_inb, zs_cl, zm_eq, zm_eq2, zm_lt, zm_le, mz_lt, mz_le, mm_eq, zs_bit, zs_or1, zs_div, zs_rem, ck_pos, if_pos, if_neg, true_or, or_true, true_and, and_true, false_or, or_false, false_and, and_false, not_true, not_false_iff, if_true, if_false, eq_self, Bool.false_eq_true, cl2_id, Bool.not_true, Bool.not_false]
theorem fX8_standsIn_e {a0 a1 p : Nat} {u w : List Nat} (h0 : SY m a0 u) (h1 : SY m a1 w) (hu : LtW u) (hw : LtW w) (hp : p < 1000) : fX8_standsIn a0 a1 (nI p) m = some (nI (if z_st u w p then 1 else 0), m) := by
  have hu8 := hu.1
  have hw8 := hw.1
  unfold fX8_standsIn fX8_standsIn_17 z_st
  by_cases h : p + u.length ≤ w.length
  · rw [decide_eq_true h, Bool.true_and]
    simp (disch := omega) only [h0.1, h1.1, cl2_so, cl1_so, ck_tr, zl_0, zl_1, zl_2, zl_3, zl_4, zl_5, zl_6, zl_7, zl_8, zl_9, zl_10, zl_11, zl_12, zl_15, zl_16, zl_20, zl_24, zl_25, zl_30, zl_31, zl_32, zl_33, zl_44, zl_48, zl_50, zl_57, zl_59, zl_60, zl_61, zl_62, zl_63, zl_64, zl_68, zl_97, zl_99, zl_100, zl_104, zl_108, zl_114, zl_120, zl_122, zl_126, zl_132, zl_180, zl_181, zl_186, zl_255, zl_900, zl_930, zl_1000, zl_1000000, nI_add, pk_mul, zs_sub, zs_lt, zs_le, zs_eq, zs_inb, zs_cl, zm_eq, zm_eq2, zm_lt, zm_le, mz_lt, mz_le, mm_eq, zs_bit, zs_or1, zs_div, zs_rem, ck_pos, if_pos, if_neg, true_or, or_true, true_and, and_true, false_or, or_false, false_and, and_false, not_true, not_false_iff, if_true, if_false, eq_self, Bool.false_eq_true, cl2_id, Bool.not_true, Bool.not_false]
    exact si21 h0 h1 hu hw h u.length 0 FU (by omega) (FU_pos (by omega))
  · rw [decide_eq_false h, Bool.false_and]
    simp (disch := omega) only [h0.1, h1.1, cl2_so, cl1_so, ck_tr, zl_0, zl_1, zl_2, zl_3, zl_4, zl_5, zl_6, zl_7, zl_8, zl_9, zl_10, zl_11, zl_12, zl_15, zl_16, zl_20, zl_24, zl_25, zl_30, zl_31, zl_32, zl_33, zl_44, zl_48, zl_50, zl_57, zl_59, zl_60, zl_61, zl_62, zl_63, zl_64, zl_68, zl_97, zl_99, zl_100, zl_104, zl_108, zl_114, zl_120, zl_122, zl_126, zl_132, zl_180, zl_181, zl_186, zl_255, zl_900, zl_930, zl_1000, zl_1000000, nI_add, pk_mul, zs_sub, zs_lt, zs_le, zs_eq, zs_inb, zs_cl, zm_eq, zm_eq2, zm_lt, zm_le, mz_lt, mz_le, mm_eq, zs_bit, zs_or1, zs_div, zs_rem, ck_pos, if_pos, if_neg, true_or, or_true, true_and, and_true, false_or, or_false, false_and, and_false, not_true, not_false_iff, if_true, if_false, eq_self, Bool.false_eq_true, cl2_id, Bool.not_true, Bool.not_false]
theorem fX8_sameLetters_e {a0 a1 : Nat} {u w : List Nat} (h0 : SY m a0 u) (h1 : SY m a1 w) (hu : LtW u) (hw : LtW w) : fX8_sameLetters a0 a1 m = some (nI (if eqB u w then 1 else 0), m) := by
  have hu8 := hu.1
  have hw8 := hw.1
  have e := fX8_standsIn_e (p := 0) h0 h1 hu hw (by omega)
  unfold fX8_sameLetters fX8_sameLetters_24 fX8_sameLetters_25 eqB
  unfold z_st at e
  simp only [Nat.zero_add] at e
  by_cases h : u.length = w.length
  · rw [decide_eq_true (show u.length ≤ w.length by omega), Bool.true_and] at e
    rw [decide_eq_true h, Bool.true_and]
    cases hg : z_al (fun k => decide (u.getD k 0 = w.getD k 0)) 0 u.length <;> simp (disch := omega) only [h0.1, h1.1, e, hg, cl2_so, cl1_so, ck_tr, zl_0, zl_1, zl_2, zl_3, zl_4, zl_5, zl_6, zl_7, zl_8, zl_9, zl_10, zl_11, zl_12, zl_15, zl_16, zl_20, zl_24, zl_25, zl_30, zl_31, zl_32, zl_33, zl_44, zl_48, zl_50, zl_57, zl_59, zl_60, zl_61, zl_62, zl_63, zl_64, zl_68, zl_97, zl_99, zl_100, zl_104, zl_108, zl_114, zl_120, zl_122, zl_126, zl_132, zl_180, zl_181, zl_186, zl_255, zl_900, zl_930, zl_1000, zl_1000000, nI_add, pk_mul, zs_sub, zs_lt, zs_le, zs_eq, zs_inb, zs_cl, zm_eq, zm_eq2, zm_lt, zm_le, mz_lt, mz_le, mm_eq, zs_bit, zs_or1, zs_div, zs_rem, ck_pos, if_pos, if_neg, true_or, or_true, true_and, and_true, false_or, or_false, false_and, and_false, not_true, not_false_iff, if_true, if_false, eq_self, Bool.false_eq_true, cl2_id, Bool.not_true, Bool.not_false]
  · rw [decide_eq_false h, Bool.false_and]
    simp (disch := omega) only [h0.1, h1.1, cl2_so, cl1_so, ck_tr, zl_0, zl_1, zl_2, zl_3, zl_4, zl_5, zl_6, zl_7, zl_8, zl_9, zl_10, zl_11, zl_12, zl_15, zl_16, zl_20, zl_24, zl_25, zl_30, zl_31, zl_32, zl_33, zl_44, zl_48, zl_50, zl_57, zl_59, zl_60, zl_61, zl_62, zl_63, zl_64, zl_68, zl_97, zl_99, zl_100, zl_104, zl_108, zl_114, zl_120, zl_122, zl_126, zl_132, zl_180, zl_181, zl_186, zl_255, zl_900, zl_930, zl_1000, zl_1000000, nI_add, pk_mul, zs_sub, zs_lt, zs_le, zs_eq, zs_inb, zs_cl, zm_eq, zm_eq2, zm_lt, zm_le, mz_lt, mz_le, mm_eq, zs_bit, zs_or1, zs_div, zs_rem, ck_pos, if_pos, if_neg, true_or, or_true, true_and, and_true, false_or, or_false, false_and, and_false, not_true, not_false_iff, if_true, if_false, eq_self, Bool.false_eq_true, cl2_id, Bool.not_true, Bool.not_false]
theorem iw3 (h : KC m t r s) (hO : KO r s) {w side op : Nat} (hw : w < r 5) (hs : side ≤ 1) (ho : op ≤ z_mo r) : ∀ j k n, k + j = r 6 → j < n → fX2_isWished_3 n t (t + 7 + 2 * w) (nI side) (nI op) (nI k) m = some (nI (if z_ex (wq r w side op) k j then 1 else 0), m) := by
  have h6 := hO.1.2.2.2.2.1
  have hmo := z_mo_le hO.1.1
  have e9 := h.2.2.1.2.1.2.2.1
  intro j
  induction j with
  | zero =>
    intro k n hk hn
    obtain ⟨n, rfl⟩ : ∃ n', n = n' + 1 := ⟨n - 1, by omega⟩
    rw [fX2_isWished_3, z_ex]
    simp (disch := omega) only [e9, cl2_so, cl1_so, ck_tr, zl_0, zl_1, zl_2, zl_3, zl_4, zl_5, zl_6, zl_7, zl_8, zl_9, zl_10, zl_11, zl_12, zl_15, zl_16, zl_20, zl_24, zl_25, zl_30, zl_31, zl_32, zl_33, zl_44, zl_48, zl_50, zl_57, zl_59, zl_60, zl_61, zl_62, zl_63, zl_64, zl_68, zl_97, zl_99, zl_100, zl_104, zl_108, zl_114, zl_120, zl_122, zl_126, zl_132, zl_180, zl_181, zl_186, zl_255, zl_900, zl_930, zl_1000, zl_1000000, nI_add, pk_mul, zs_sub, zs_lt, zs_le, zs_eq, zs_inb, zs_cl, zm_eq, zm_eq2, zm_lt, zm_le, mz_lt, mz_le, mm_eq, zs_bit, zs_or1, zs_div, zs_rem, ck_pos, if_pos, if_neg, true_or, or_true, true_and, and_true, false_or, or_false, false_and, and_false, not_true, not_false_iff, if_true, if_false, eq_self, Bool.false_eq_true, cl2_id, Bool.not_true, Bool.not_false]
  | succ j ih =>
    intro k n hk hn
    obtain ⟨n, rfl⟩ : ∃ n', n = n' + 1 := ⟨n - 1, by omega⟩
    obtain ⟨hS, e2, e3⟩ := h.wish (w := k) (by omega)
    obtain ⟨-, -, o1, o2, -⟩ := hO.1.2.2.2.2.2.2.2.2.1 k (by omega)
    have e4 := fX8_sameLetters_e hS (h.word hw) (wish_ok hO.1 (w := k) (by omega)).lt (word_ok hO.1 hw).lt
    have ih' := ih (k + 1) n (by omega) (by omega)
    rw [fX2_isWished_3, z_ex]
    unfold fX2_isWished_50 wq
    by_cases c1 : r (100 + k) = side
    · by_cases c2 : r (104 + k) = op
      · rw [decide_eq_true c1, decide_eq_true c2, Bool.true_and, Bool.true_and]
        cases hg : eqB (z_wish r k) (z_word r w)
        · simp (disch := omega) only [e9, e2, e3, c1, c2, e4, hg, Bool.false_or, cl2_so, cl1_so, ck_tr, zl_0, zl_1, zl_2, zl_3, zl_4, zl_5, zl_6, zl_7, zl_8, zl_9, zl_10, zl_11, zl_12, zl_15, zl_16, zl_20, zl_24, zl_25, zl_30, zl_31, zl_32, zl_33, zl_44, zl_48, zl_50, zl_57, zl_59, zl_60, zl_61, zl_62, zl_63, zl_64, zl_68, zl_97, zl_99, zl_100, zl_104, zl_108, zl_114, zl_120, zl_122, zl_126, zl_132, zl_180, zl_181, zl_186, zl_255, zl_900, zl_930, zl_1000, zl_1000000, nI_add, pk_mul, zs_sub, zs_lt, zs_le, zs_eq, zs_inb, zs_cl, zm_eq, zm_eq2, zm_lt, zm_le, mz_lt, mz_le, mm_eq, zs_bit, zs_or1, zs_div, zs_rem, ck_pos, if_pos, if_neg, true_or, or_true, true_and, and_true, false_or, or_false, false_and, and_false, not_true, not_false_iff, if_true, if_false, eq_self, Bool.false_eq_true, cl2_id, Bool.not_true, Bool.not_false]
          exact ih'
        · simp (disch := omega) only [e9, e2, e3, c1, c2, e4, hg, Bool.true_or, cl2_so, cl1_so, ck_tr, zl_0, zl_1, zl_2, zl_3, zl_4, zl_5, zl_6, zl_7, zl_8, zl_9, zl_10, zl_11, zl_12, zl_15, zl_16, zl_20, zl_24, zl_25, zl_30, zl_31, zl_32, zl_33, zl_44, zl_48, zl_50, zl_57, zl_59, zl_60, zl_61, zl_62, zl_63, zl_64, zl_68, zl_97, zl_99, zl_100, zl_104, zl_108, zl_114, zl_120, zl_122, zl_126, zl_132, zl_180, zl_181, zl_186, zl_255, zl_900, zl_930, zl_1000, zl_1000000, nI_add, pk_mul, zs_sub, zs_lt, zs_le, zs_eq, zs_inb, zs_cl, zm_eq, zm_eq2, zm_lt, zm_le, mz_lt, mz_le, mm_eq, zs_bit, zs_or1, zs_div, zs_rem, ck_pos, if_pos, if_neg, true_or, or_true, true_and, and_true, false_or, or_false, false_and, and_false, not_true, not_false_iff, if_true, if_false, eq_self, Bool.false_eq_true, cl2_id, Bool.not_true, Bool.not_false]
      · rw [decide_eq_true c1, decide_eq_false c2, Bool.true_and, Bool.false_and, Bool.false_or]
        simp (disch := omega) only [e9, e2, e3, c1, c2, cl2_so, cl1_so, ck_tr, zl_0, zl_1, zl_2, zl_3, zl_4, zl_5, zl_6, zl_7, zl_8, zl_9, zl_10, zl_11, zl_12, zl_15, zl_16, zl_20, zl_24, zl_25, zl_30, zl_31, zl_32, zl_33, zl_44, zl_48, zl_50, zl_57, zl_59, zl_60, zl_61, zl_62, zl_63, zl_64, zl_68, zl_97, zl_99, zl_100, zl_104, zl_108, zl_114, zl_120, zl_122, zl_126, zl_132, zl_180, zl_181, zl_186, zl_255, zl_900, zl_930, zl_1000, zl_1000000, nI_add, pk_mul, zs_sub, zs_lt, zs_le, zs_eq, zs_inb, zs_cl, zm_eq, zm_eq2, zm_lt, zm_le, mz_lt, mz_le, mm_eq, zs_bit, zs_or1, zs_div, zs_rem, ck_pos, if_pos, if_neg, true_or, or_true, true_and, and_true, false_or, or_false, false_and, and_false, not_true, not_false_iff, if_true, if_false, eq_self, Bool.false_eq_true, cl2_id, Bool.not_true, Bool.not_false]
        exact ih'
    · rw [decide_eq_false c1, Bool.false_and, Bool.false_or]
      simp (disch := omega) only [e9, e2, e3, c1, cl2_so, cl1_so, ck_tr, zl_0, zl_1, zl_2, zl_3, zl_4, zl_5, zl_6, zl_7, zl_8, zl_9, zl_10, zl_11, zl_12, zl_15, zl_16, zl_20, zl_24, zl_25, zl_30, zl_31, zl_32, zl_33, zl_44, zl_48, zl_50, zl_57, zl_59, zl_60, zl_61, zl_62, zl_63, zl_64, zl_68, zl_97, zl_99, zl_100, zl_104, zl_108, zl_114, zl_120, zl_122, zl_126, zl_132, zl_180, zl_181, zl_186, zl_255, zl_900, zl_930, zl_1000, zl_1000000, nI_add, pk_mul, zs_sub, zs_lt, zs_le, zs_eq, zs_inb, zs_cl, zm_eq, zm_eq2, zm_lt, zm_le, mz_lt, mz_le, mm_eq, zs_bit, zs_or1, zs_div, zs_rem, ck_pos, if_pos, if_neg, true_or, or_true, true_and, and_true, false_or, or_false, false_and, and_false, not_true, not_false_iff, if_true, if_false, eq_self, Bool.false_eq_true, cl2_id, Bool.not_true, Bool.not_false]
      exact ih'
theorem KC.wished (h : KC m t r s) (hO : KO r s) {w side op : Nat} (hw : w < r 5) (hs : side ≤ 1) (ho : op ≤ z_mo r) : fX2_isWished t (t + 7 + 2 * w) (nI side) (nI op) m = some (nI (if wis r w side op then 1 else 0), m) := by
  have h6 := hO.1.2.2.2.2.1
  exact iw3 h hO hw hs ho (r 6) 0 FU (by omega) (FU_pos (by omega))
theorem iw75 (h : KM m r s) (hO : KO r s) {w i : Nat} (hw : w < r 5) (hi : i < r 6) {k3 : Int32 → Int32 → Int32 → Int32 → Me → Option (Int32 × Me)} : ∀ j k n, k + j = r (10 + w) → j < n → fX11_isWished_75 n k3 (nI w) x2 x3 (nI i) (nI 1) (nI k) m = if z_al (fun k => decide (r (68 + 8 * i + k) = r (16 + 8 * w + k))) k j then some (nI 1, m) else k3 (nI w) x2 x3 (nI (i + 1)) m := by
  have h5 := hO.1.2.2.2.1
  have h6 := hO.1.2.2.2.2.1
  obtain ⟨-, o8, -⟩ := hO.1.2.2.2.2.2.2.2.1 w hw
  intro j
  induction j with
  | zero =>
    intro k n hk hn
    obtain ⟨n, rfl⟩ : ∃ n', n = n' + 1 := ⟨n - 1, by omega⟩
    rw [fX11_isWished_75, z_al]
    unfold fX11_isWished_141
    simp (disch := omega) only [h.2.1 (10 + w) (by omega), cl2_so, cl1_so, ck_tr, zl_0, zl_1, zl_2, zl_3, zl_4, zl_5, zl_6, zl_7, zl_8, zl_9, zl_10, zl_11, zl_12, zl_15, zl_16, zl_20, zl_24, zl_25, zl_30, zl_31, zl_32, zl_33, zl_44, zl_48, zl_50, zl_57, zl_59, zl_60, zl_61, zl_62, zl_63, zl_64, zl_68, zl_97, zl_99, zl_100, zl_104, zl_108, zl_114, zl_120, zl_122, zl_126, zl_132, zl_180, zl_181, zl_186, zl_255, zl_900, zl_930, zl_1000, zl_1000000, nI_add, pk_mul, zs_sub, zs_lt, zs_le, zs_eq, zs_inb, zs_cl, zm_eq, zm_eq2, zm_lt, zm_le, mz_lt, mz_le, mm_eq, zs_bit, zs_or1, zs_div, zs_rem, ck_pos, if_pos, if_neg, true_or, or_true, true_and, and_true, false_or, or_false, false_and, and_false, not_true, not_false_iff, if_true, if_false, eq_self, Bool.false_eq_true, cl2_id, Bool.not_true, Bool.not_false]
  | succ j ih =>
    intro k n hk hn
    obtain ⟨n, rfl⟩ : ∃ n', n = n' + 1 := ⟨n - 1, by omega⟩
    rw [fX11_isWished_75, z_al]
    have b1 := hO.1.2.1 (68 + 8 * i + k) (by omega)
    have b2 := hO.1.2.1 (16 + 8 * w + k) (by omega)
    unfold fX11_isWished_133
    by_cases hg : r (68 + 8 * i + k) = r (16 + 8 * w + k)
    · rw [decide_eq_true hg, Bool.true_and]
      simp (disch := omega) only [h.2.1 (10 + w) (by omega), h.2.1 (68 + 8 * i + k) (by omega), h.2.1 (16 + 8 * w + k) (by omega), hg, cl2_so, cl1_so, ck_tr, zl_0, zl_1, zl_2, zl_3, zl_4, zl_5, zl_6, zl_7, zl_8, zl_9, zl_10, zl_11, zl_12, zl_15, zl_16, zl_20, zl_24, zl_25, zl_30, zl_31, zl_32, zl_33, zl_44, zl_48, zl_50, zl_57, zl_59, zl_60, zl_61, zl_62, zl_63, zl_64, zl_68, zl_97, zl_99, zl_100, zl_104, zl_108, zl_114, zl_120, zl_122, zl_126, zl_132, zl_180, zl_181, zl_186, zl_255, zl_900, zl_930, zl_1000, zl_1000000, nI_add, pk_mul, zs_sub, zs_lt, zs_le, zs_eq, zs_inb, zs_cl, zm_eq, zm_eq2, zm_lt, zm_le, mz_lt, mz_le, mm_eq, zs_bit, zs_or1, zs_div, zs_rem, ck_pos, if_pos, if_neg, true_or, or_true, true_and, and_true, false_or, or_false, false_and, and_false, not_true, not_false_iff, if_true, if_false, eq_self, Bool.false_eq_true, cl2_id, Bool.not_true, Bool.not_false]
      exact ih (k + 1) n (by omega) (by omega)
    · rw [decide_eq_false hg, Bool.false_and]
      obtain ⟨n, rfl⟩ : ∃ n', n = n' + 1 := ⟨n - 1, by omega⟩
      simp (disch := omega) only [h.2.1 (10 + w) (by omega), h.2.1 (68 + 8 * i + k) (by omega), h.2.1 (16 + 8 * w + k) (by omega), hg, cl2_so, cl1_so, ck_tr, zl_0, zl_1, zl_2, zl_3, zl_4, zl_5, zl_6, zl_7, zl_8, zl_9, zl_10, zl_11, zl_12, zl_15, zl_16, zl_20, zl_24, zl_25, zl_30, zl_31, zl_32, zl_33, zl_44, zl_48, zl_50, zl_57, zl_59, zl_60, zl_61, zl_62, zl_63, zl_64, zl_68, zl_97, zl_99, zl_100, zl_104, zl_108, zl_114, zl_120, zl_122, zl_126, zl_132, zl_180, zl_181, zl_186, zl_255, zl_900, zl_930, zl_1000, zl_1000000, nI_add, pk_mul, zs_sub, zs_lt, zs_le, zs_eq, zs_inb, zs_cl, zm_eq, zm_eq2, zm_lt, zm_le, mz_lt, mz_le, mm_eq, zs_bit, zs_or1, zs_div, zs_rem, ck_pos, if_pos, if_neg, true_or, or_true, true_and, and_true, false_or, or_false, false_and, and_false, not_true, not_false_iff, if_true, if_false, eq_self, Bool.false_eq_true, cl2_id, Bool.not_true, Bool.not_false]
      rw [fX11_isWished_75]
      unfold fX11_isWished_141
      simp (disch := omega) only [h.2.1 (10 + w) (by omega), ite_self, cl2_so, cl1_so, ck_tr, zl_0, zl_1, zl_2, zl_3, zl_4, zl_5, zl_6, zl_7, zl_8, zl_9, zl_10, zl_11, zl_12, zl_15, zl_16, zl_20, zl_24, zl_25, zl_30, zl_31, zl_32, zl_33, zl_44, zl_48, zl_50, zl_57, zl_59, zl_60, zl_61, zl_62, zl_63, zl_64, zl_68, zl_97, zl_99, zl_100, zl_104, zl_108, zl_114, zl_120, zl_122, zl_126, zl_132, zl_180, zl_181, zl_186, zl_255, zl_900, zl_930, zl_1000, zl_1000000, nI_add, pk_mul, zs_sub, zs_lt, zs_le, zs_eq, zs_inb, zs_cl, zm_eq, zm_eq2, zm_lt, zm_le, mz_lt, mz_le, mm_eq, zs_bit, zs_or1, zs_div, zs_rem, ck_pos, if_pos, if_neg, true_or, or_true, true_and, and_true, false_or, or_false, false_and, and_false, not_true, not_false_iff, if_true, if_false, eq_self, Bool.false_eq_true, cl2_id, Bool.not_true, Bool.not_false]
theorem iw69 (h : KM m r s) (hO : KO r s) {w i : Nat} (hw : w < r 5) {k3 : Int32 → Int32 → Int32 → Int32 → Me → Option (Int32 × Me)} : fX11_isWished_69 k3 (nI w) x2 x3 (nI i) m = k3 (nI w) x2 x3 (nI (i + 1)) m := by
  have h5 := hO.1.2.2.2.1
  unfold fX11_isWished_69 fX11_isWished_70
  have e : FU = 1999 + 1 := rfl
  rw [e, fX11_isWished_75]
  unfold fX11_isWished_141
  simp (disch := omega) only [h.2.1 (10 + w) (by omega), ite_self, cl2_so, cl1_so, ck_tr, zl_0, zl_1, zl_2, zl_3, zl_4, zl_5, zl_6, zl_7, zl_8, zl_9, zl_10, zl_11, zl_12, zl_15, zl_16, zl_20, zl_24, zl_25, zl_30, zl_31, zl_32, zl_33, zl_44, zl_48, zl_50, zl_57, zl_59, zl_60, zl_61, zl_62, zl_63, zl_64, zl_68, zl_97, zl_99, zl_100, zl_104, zl_108, zl_114, zl_120, zl_122, zl_126, zl_132, zl_180, zl_181, zl_186, zl_255, zl_900, zl_930, zl_1000, zl_1000000, nI_add, pk_mul, zs_sub, zs_lt, zs_le, zs_eq, zs_inb, zs_cl, zm_eq, zm_eq2, zm_lt, zm_le, mz_lt, mz_le, mm_eq, zs_bit, zs_or1, zs_div, zs_rem, ck_pos, if_pos, if_neg, true_or, or_true, true_and, and_true, false_or, or_false, false_and, and_false, not_true, not_false_iff, if_true, if_false, eq_self, Bool.false_eq_true, cl2_id, Bool.not_true, Bool.not_false]
theorem iwm3 (h : KM m r s) (hO : KO r s) {w side op : Nat} (hw : w < r 5) (hs : side ≤ 1) (ho : op ≤ z_mo r) : ∀ j k n, k + j = r 6 → j < n → fX11_isWished_3 n (nI w) (nI side) (nI op) (nI k) m = some (nI (if z_ex (wq r w side op) k j then 1 else 0), m) := by
  have h5 := hO.1.2.2.2.1
  have h6 := hO.1.2.2.2.2.1
  have hmo := z_mo_le hO.1.1
  obtain ⟨-, w8, -⟩ := hO.1.2.2.2.2.2.2.2.1 w hw
  intro j
  induction j with
  | zero =>
    intro k n hk hn
    obtain ⟨n, rfl⟩ : ∃ n', n = n' + 1 := ⟨n - 1, by omega⟩
    rw [fX11_isWished_3, z_ex]
    simp (disch := omega) only [h.2.1 6 (by omega), cl2_so, cl1_so, ck_tr, zl_0, zl_1, zl_2, zl_3, zl_4, zl_5, zl_6, zl_7, zl_8, zl_9, zl_10, zl_11, zl_12, zl_15, zl_16, zl_20, zl_24, zl_25, zl_30, zl_31, zl_32, zl_33, zl_44, zl_48, zl_50, zl_57, zl_59, zl_60, zl_61, zl_62, zl_63, zl_64, zl_68, zl_97, zl_99, zl_100, zl_104, zl_108, zl_114, zl_120, zl_122, zl_126, zl_132, zl_180, zl_181, zl_186, zl_255, zl_900, zl_930, zl_1000, zl_1000000, nI_add, pk_mul, zs_sub, zs_lt, zs_le, zs_eq, zs_inb, zs_cl, zm_eq, zm_eq2, zm_lt, zm_le, mz_lt, mz_le, mm_eq, zs_bit, zs_or1, zs_div, zs_rem, ck_pos, if_pos, if_neg, true_or, or_true, true_and, and_true, false_or, or_false, false_and, and_false, not_true, not_false_iff, if_true, if_false, eq_self, Bool.false_eq_true, cl2_id, Bool.not_true, Bool.not_false]
  | succ j ih =>
    intro k n hk hn
    obtain ⟨n, rfl⟩ : ∃ n', n = n' + 1 := ⟨n - 1, by omega⟩
    have ih' := ih (k + 1) n (by omega) (by omega)
    have e1 := h.2.1 (64 + k) (by omega)
    have e2 := h.2.1 (10 + w) (by omega)
    have e3 := h.2.1 (100 + k) (by omega)
    have e4 := h.2.1 (104 + k) (by omega)
    have e5 := h.2.1 6 (by omega)
    obtain ⟨-, o8, o1, o2, -⟩ := hO.1.2.2.2.2.2.2.2.2.1 k (by omega)
    rw [fX11_isWished_3, z_ex]
    generalize z_ex (wq r w side op) (k + 1) j = Z at ih' ⊢
    unfold wq eqB
    rw [z_wish_len, z_word_len]
    by_cases c0 : r (64 + k) = r (10 + w)
    · by_cases c1 : r (100 + k) = side
      · by_cases c2 : r (104 + k) = op
        · rw [decide_eq_true c0, decide_eq_true c1, decide_eq_true c2, Bool.true_and, Bool.true_and, Bool.true_and]
          have e6 := iw75 (x2 := nI side) (x3 := nI op) h hO hw (i := k) (by omega) (k3 := fX11_isWished_3 n) (r (10 + w)) 0 FU (by omega) (FU_pos (by omega))
          have e7 : z_al (fun k_1 => decide ((z_wish r k).getD k_1 0 = (z_word r w).getD k_1 0)) 0 (r (64 + k)) = z_al (fun k_1 => decide (r (68 + 8 * k + k_1) = r (16 + 8 * w + k_1))) 0 (r (10 + w)) := by
            rw [c0]
            apply z_al_congr
            intro i _ hi
            unfold z_wish z_word
            rw [z_w_at (by omega), z_w_at (by omega)]
          rw [e7]
          unfold fX11_isWished_70
          simp (disch := omega) only [e1, e2, e3, e4, e5, c0, c1, c2, e6, cl2_so, cl1_so, ck_tr, zl_0, zl_1, zl_2, zl_3, zl_4, zl_5, zl_6, zl_7, zl_8, zl_9, zl_10, zl_11, zl_12, zl_15, zl_16, zl_20, zl_24, zl_25, zl_30, zl_31, zl_32, zl_33, zl_44, zl_48, zl_50, zl_57, zl_59, zl_60, zl_61, zl_62, zl_63, zl_64, zl_68, zl_97, zl_99, zl_100, zl_104, zl_108, zl_114, zl_120, zl_122, zl_126, zl_132, zl_180, zl_181, zl_186, zl_255, zl_900, zl_930, zl_1000, zl_1000000, nI_add, pk_mul, zs_sub, zs_lt, zs_le, zs_eq, zs_inb, zs_cl, zm_eq, zm_eq2, zm_lt, zm_le, mz_lt, mz_le, mm_eq, zs_bit, zs_or1, zs_div, zs_rem, ck_pos, if_pos, if_neg, true_or, or_true, true_and, and_true, false_or, or_false, false_and, and_false, not_true, not_false_iff, if_true, if_false, eq_self, Bool.false_eq_true, cl2_id, Bool.not_true, Bool.not_false]
          cases hg : z_al (fun k_1 => decide (r (68 + 8 * k + k_1) = r (16 + 8 * w + k_1))) 0 (r (10 + w))
          · simp (disch := omega) only [Bool.false_or, cl2_so, cl1_so, ck_tr, zl_0, zl_1, zl_2, zl_3, zl_4, zl_5, zl_6, zl_7, zl_8, zl_9, zl_10, zl_11, zl_12, zl_15, zl_16, zl_20, zl_24, zl_25, zl_30, zl_31, zl_32, zl_33, zl_44, zl_48, zl_50, zl_57, zl_59, zl_60, zl_61, zl_62, zl_63, zl_64, zl_68, zl_97, zl_99, zl_100, zl_104, zl_108, zl_114, zl_120, zl_122, zl_126, zl_132, zl_180, zl_181, zl_186, zl_255, zl_900, zl_930, zl_1000, zl_1000000, nI_add, pk_mul, zs_sub, zs_lt, zs_le, zs_eq, zs_inb, zs_cl, zm_eq, zm_eq2, zm_lt, zm_le, mz_lt, mz_le, mm_eq, zs_bit, zs_or1, zs_div, zs_rem, ck_pos, if_pos, if_neg, true_or, or_true, true_and, and_true, false_or, or_false, false_and, and_false, not_true, not_false_iff, if_true, if_false, eq_self, Bool.false_eq_true, cl2_id, Bool.not_true, Bool.not_false]
            exact ih'
          · simp (disch := omega) only [Bool.true_or, cl2_so, cl1_so, ck_tr, zl_0, zl_1, zl_2, zl_3, zl_4, zl_5, zl_6, zl_7, zl_8, zl_9, zl_10, zl_11, zl_12, zl_15, zl_16, zl_20, zl_24, zl_25, zl_30, zl_31, zl_32, zl_33, zl_44, zl_48, zl_50, zl_57, zl_59, zl_60, zl_61, zl_62, zl_63, zl_64, zl_68, zl_97, zl_99, zl_100, zl_104, zl_108, zl_114, zl_120, zl_122, zl_126, zl_132, zl_180, zl_181, zl_186, zl_255, zl_900, zl_930, zl_1000, zl_1000000, nI_add, pk_mul, zs_sub, zs_lt, zs_le, zs_eq, zs_inb, zs_cl, zm_eq, zm_eq2, zm_lt, zm_le, mz_lt, mz_le, mm_eq, zs_bit, zs_or1, zs_div, zs_rem, ck_pos, if_pos, if_neg, true_or, or_true, true_and, and_true, false_or, or_false, false_and, and_false, not_true, not_false_iff, if_true, if_false, eq_self, Bool.false_eq_true, cl2_id, Bool.not_true, Bool.not_false]
        · rw [decide_eq_false c2, Bool.false_and, Bool.and_false, Bool.false_or]
          simp (disch := omega) only [e1, e2, e3, e4, e5, c0, c1, c2, iw69 h hO hw, cl2_so, cl1_so, ck_tr, zl_0, zl_1, zl_2, zl_3, zl_4, zl_5, zl_6, zl_7, zl_8, zl_9, zl_10, zl_11, zl_12, zl_15, zl_16, zl_20, zl_24, zl_25, zl_30, zl_31, zl_32, zl_33, zl_44, zl_48, zl_50, zl_57, zl_59, zl_60, zl_61, zl_62, zl_63, zl_64, zl_68, zl_97, zl_99, zl_100, zl_104, zl_108, zl_114, zl_120, zl_122, zl_126, zl_132, zl_180, zl_181, zl_186, zl_255, zl_900, zl_930, zl_1000, zl_1000000, nI_add, pk_mul, zs_sub, zs_lt, zs_le, zs_eq, zs_inb, zs_cl, zm_eq, zm_eq2, zm_lt, zm_le, mz_lt, mz_le, mm_eq, zs_bit, zs_or1, zs_div, zs_rem, ck_pos, if_pos, if_neg, true_or, or_true, true_and, and_true, false_or, or_false, false_and, and_false, not_true, not_false_iff, if_true, if_false, eq_self, Bool.false_eq_true, cl2_id, Bool.not_true, Bool.not_false]
          exact ih'
      · rw [decide_eq_false c1, Bool.false_and, Bool.false_or]
        simp (disch := omega) only [e1, e2, e3, e4, e5, c0, c1, iw69 h hO hw, cl2_so, cl1_so, ck_tr, zl_0, zl_1, zl_2, zl_3, zl_4, zl_5, zl_6, zl_7, zl_8, zl_9, zl_10, zl_11, zl_12, zl_15, zl_16, zl_20, zl_24, zl_25, zl_30, zl_31, zl_32, zl_33, zl_44, zl_48, zl_50, zl_57, zl_59, zl_60, zl_61, zl_62, zl_63, zl_64, zl_68, zl_97, zl_99, zl_100, zl_104, zl_108, zl_114, zl_120, zl_122, zl_126, zl_132, zl_180, zl_181, zl_186, zl_255, zl_900, zl_930, zl_1000, zl_1000000, nI_add, pk_mul, zs_sub, zs_lt, zs_le, zs_eq, zs_inb, zs_cl, zm_eq, zm_eq2, zm_lt, zm_le, mz_lt, mz_le, mm_eq, zs_bit, zs_or1, zs_div, zs_rem, ck_pos, if_pos, if_neg, true_or, or_true, true_and, and_true, false_or, or_false, false_and, and_false, not_true, not_false_iff, if_true, if_false, eq_self, Bool.false_eq_true, cl2_id, Bool.not_true, Bool.not_false]
        exact ih'
    · rw [decide_eq_false c0, Bool.false_and, Bool.and_false, Bool.and_false, Bool.false_or]
      simp (disch := omega) only [e1, e2, e3, e4, e5, c0, iw69 h hO hw, cl2_so, cl1_so, ck_tr, zl_0, zl_1, zl_2, zl_3, zl_4, zl_5, zl_6, zl_7, zl_8, zl_9, zl_10, zl_11, zl_12, zl_15, zl_16, zl_20, zl_24, zl_25, zl_30, zl_31, zl_32, zl_33, zl_44, zl_48, zl_50, zl_57, zl_59, zl_60, zl_61, zl_62, zl_63, zl_64, zl_68, zl_97, zl_99, zl_100, zl_104, zl_108, zl_114, zl_120, zl_122, zl_126, zl_132, zl_180, zl_181, zl_186, zl_255, zl_900, zl_930, zl_1000, zl_1000000, nI_add, pk_mul, zs_sub, zs_lt, zs_le, zs_eq, zs_inb, zs_cl, zm_eq, zm_eq2, zm_lt, zm_le, mz_lt, mz_le, mm_eq, zs_bit, zs_or1, zs_div, zs_rem, ck_pos, if_pos, if_neg, true_or, or_true, true_and, and_true, false_or, or_false, false_and, and_false, not_true, not_false_iff, if_true, if_false, eq_self, Bool.false_eq_true, cl2_id, Bool.not_true, Bool.not_false]
      exact ih'
theorem KM.wished (h : KM m r s) (hO : KO r s) {w side op : Nat} (hw : w < r 5) (hs : side ≤ 1) (ho : op ≤ z_mo r) : fX11_isWished (nI w) (nI side) (nI op) m = some (nI (if wis r w side op then 1 else 0), m) := by
  have h6 := hO.1.2.2.2.2.1
  exact iwm3 h hO hw hs ho (r 6) 0 FU (by omega) (FU_pos (by omega))
end C6
/-- the mistakes of a side at an opening, of an opening, of all from one on -/
def mkg (r s : Nat → Nat) (side v w : Nat) : Bool := rd (z_word r w) (zT r s side v (s 60)) && !wis r w side v
def mkc (side v w : Nat) : Nat := 100 * w + 50 * side + v
def mkv (r s : Nat → Nat) (v : Nat) : List Nat := z_fl (mkg r s 0 v) (mkc 0 v) 0 (r 5) ++ z_fl (mkg r s 1 v) (mkc 1 v) 0 (r 5)
def zmv (r s : Nat → Nat) : Nat → Nat → List Nat
  | _, 0 => []
  | k, j + 1 => mkv r s k ++ zmv r s (k + 1) j
section C7
variable {m : Me} {H : Bool} {t : Nat} {r s : Nat → Nat} {x1 x2 x3 x4 : Int32}
theorem gm31 (hO : KO r s) {side v : Nat} (hs : side ≤ 1) (hv : v ≤ z_mo r) {k4 : Int32 → Int32 → Me → Option (Int32 × Me)} {k17 : Int32 → Int32 → Int32 → Me → Option (Int32 × Me)} : ∀ j k n F (m : Me), KC m t r s → RLt m 88 (zT r s side v (s 60)) → GR m F → k + j = r 5 → j < n → F.length ≤ 6 * (2 * v + side) + k → ∃ m', fX10_gatherMistakes_31 n k4 k17 (nI F.length) (nI v) (nI side) (nI k) m = k17 (nI (F ++ z_fl (mkg r s side v) (mkc side v) k j).length) (nI v) (nI (side + 1)) m' ∧ Ak sC m m' ∧ KC m' t r s ∧ GR m' (F ++ z_fl (mkg r s side v) (mkc side v) k j) := by
  have h5 := hO.1.2.2.2.1
  have hmo := z_mo_le hO.1.1
  intro j
  induction j with
  | zero =>
    intro k n F m h hR hG hk hn hF
    obtain ⟨n, rfl⟩ : ∃ n', n = n' + 1 := ⟨n - 1, by omega⟩
    have e7 := h.2.2.1.2.1.2.1
    rw [z_fl, List.append_nil]
    refine ⟨m, ?_, Ak.rf m, h, hG⟩
    rw [fX10_gatherMistakes_31]
    simp (disch := omega) only [h.1, e7, cl2_so, cl1_so, ck_tr, zl_0, zl_1, zl_2, zl_3, zl_4, zl_5, zl_6, zl_7, zl_8, zl_9, zl_10, zl_11, zl_12, zl_15, zl_16, zl_20, zl_24, zl_25, zl_30, zl_31, zl_32, zl_33, zl_44, zl_48, zl_50, zl_57, zl_59, zl_60, zl_61, zl_62, zl_63, zl_64, zl_68, zl_97, zl_99, zl_100, zl_104, zl_108, zl_114, zl_120, zl_122, zl_126, zl_132, zl_180, zl_181, zl_186, zl_255, zl_900, zl_930, zl_1000, zl_1000000, nI_add, pk_mul, zs_sub, zs_lt, zs_le, zs_eq, zs_inb, zs_cl, zm_eq, zm_eq2, zm_lt, zm_le, mz_lt, mz_le, mm_eq, zs_bit, zs_or1, zs_div, zs_rem, ck_pos, if_pos, if_neg, true_or, or_true, true_and, and_true, false_or, or_false, false_and, and_false, not_true, not_false_iff, if_true, if_false, eq_self, Bool.false_eq_true, cl2_id, Bool.not_true, Bool.not_false]
  | succ j ih =>
    intro k n F m h hR hG hk hn hF
    obtain ⟨n, rfl⟩ : ∃ n', n = n' + 1 := ⟨n - 1, by omega⟩
    have e7 := h.2.2.1.2.1.2.1
    have ht := h.tt
    have hwk := word_ok hO.1 (w := k) (by omega)
    have e2 := fX7_isRead_e hR (h.word (w := k) (by omega)) hwk.2.1 hwk.1 (zT_30 hO _ hv) hwk.2.2 (zT_k hO _ hs hv)
    have e3 := rdB_e (z_word r k) (zT r s side v (s 60))
    unfold rdB at e3
    rw [e3] at e2
    have e4 := h.wished hO (w := k) (by omega) hs hv
    rw [fX10_gatherMistakes_31, z_fl]
    unfold fX10_gatherMistakes_106 mkg
    cases hg : rd (z_word r k) (zT r s side v (s 60))
    · obtain ⟨m2, f1, f2, f3, f4⟩ := ih (k + 1) n F m h hR hG (by omega) (by omega) (by omega)
      refine ⟨m2, ?_, f2, f3, ?_⟩
      · simp (disch := omega) only [h.1, e7, e2, hg, Bool.false_and, cl2_so, cl1_so, ck_tr, zl_0, zl_1, zl_2, zl_3, zl_4, zl_5, zl_6, zl_7, zl_8, zl_9, zl_10, zl_11, zl_12, zl_15, zl_16, zl_20, zl_24, zl_25, zl_30, zl_31, zl_32, zl_33, zl_44, zl_48, zl_50, zl_57, zl_59, zl_60, zl_61, zl_62, zl_63, zl_64, zl_68, zl_97, zl_99, zl_100, zl_104, zl_108, zl_114, zl_120, zl_122, zl_126, zl_132, zl_180, zl_181, zl_186, zl_255, zl_900, zl_930, zl_1000, zl_1000000, nI_add, pk_mul, zs_sub, zs_lt, zs_le, zs_eq, zs_inb, zs_cl, zm_eq, zm_eq2, zm_lt, zm_le, mz_lt, mz_le, mm_eq, zs_bit, zs_or1, zs_div, zs_rem, ck_pos, if_pos, if_neg, true_or, or_true, true_and, and_true, false_or, or_false, false_and, and_false, not_true, not_false_iff, if_true, if_false, eq_self, Bool.false_eq_true, cl2_id, Bool.not_true, Bool.not_false]
        exact f1
      · rw [Bool.false_and]
        exact f4
    · cases hq : wis r k side v
      · have hA : Ak sC m (setI m 131 F.length (nI (mkc side v k))) := (Ak.rf m).set _ (sC_in (by omega) _)
        obtain ⟨m2, f1, f2, f3, f4⟩ := ih (k + 1) n (F ++ [mkc side v k]) _ (h.ag hO hA.agC) ⟨(sI_na (by decide)).trans hR.1, fun i hi => (sI_na (by decide)).trans (hR.2 i hi)⟩ (hG.add _) (by omega) (by omega) (by simp; omega)
        have el : F ++ [mkc side v k] ++ z_fl (mkg r s side v) (mkc side v) (k + 1) j = F ++ mkc side v k :: z_fl (mkg r s side v) (mkc side v) (k + 1) j := by simp
        rw [el] at f1 f4
        refine ⟨m2, ?_, hA.tr f2, f3, ?_⟩
        · simp (disch := omega) only [h.1, e7, e2, hg, e4, hq, Bool.true_and, Bool.not_false, cl2_so, cl1_so, ck_tr, zl_0, zl_1, zl_2, zl_3, zl_4, zl_5, zl_6, zl_7, zl_8, zl_9, zl_10, zl_11, zl_12, zl_15, zl_16, zl_20, zl_24, zl_25, zl_30, zl_31, zl_32, zl_33, zl_44, zl_48, zl_50, zl_57, zl_59, zl_60, zl_61, zl_62, zl_63, zl_64, zl_68, zl_97, zl_99, zl_100, zl_104, zl_108, zl_114, zl_120, zl_122, zl_126, zl_132, zl_180, zl_181, zl_186, zl_255, zl_900, zl_930, zl_1000, zl_1000000, nI_add, pk_mul, zs_sub, zs_lt, zs_le, zs_eq, zs_inb, zs_cl, zm_eq, zm_eq2, zm_lt, zm_le, mz_lt, mz_le, mm_eq, zs_bit, zs_or1, zs_div, zs_rem, ck_pos, if_pos, if_neg, true_or, or_true, true_and, and_true, false_or, or_false, false_and, and_false, not_true, not_false_iff, if_true, if_false, eq_self, Bool.false_eq_true, cl2_id, Bool.not_true, Bool.not_false]
          simp only [List.length_append, List.length_singleton] at f1 ⊢
          exact f1
        · rw [Bool.true_and]
          exact f4
      · obtain ⟨m2, f1, f2, f3, f4⟩ := ih (k + 1) n F m h hR hG (by omega) (by omega) (by omega)
        refine ⟨m2, ?_, f2, f3, ?_⟩
        · simp (disch := omega) only [h.1, e7, e2, hg, e4, hq, Bool.true_and, Bool.not_true, cl2_so, cl1_so, ck_tr, zl_0, zl_1, zl_2, zl_3, zl_4, zl_5, zl_6, zl_7, zl_8, zl_9, zl_10, zl_11, zl_12, zl_15, zl_16, zl_20, zl_24, zl_25, zl_30, zl_31, zl_32, zl_33, zl_44, zl_48, zl_50, zl_57, zl_59, zl_60, zl_61, zl_62, zl_63, zl_64, zl_68, zl_97, zl_99, zl_100, zl_104, zl_108, zl_114, zl_120, zl_122, zl_126, zl_132, zl_180, zl_181, zl_186, zl_255, zl_900, zl_930, zl_1000, zl_1000000, nI_add, pk_mul, zs_sub, zs_lt, zs_le, zs_eq, zs_inb, zs_cl, zm_eq, zm_eq2, zm_lt, zm_le, mz_lt, mz_le, mm_eq, zs_bit, zs_or1, zs_div, zs_rem, ck_pos, if_pos, if_neg, true_or, or_true, true_and, and_true, false_or, or_false, false_and, and_false, not_true, not_false_iff, if_true, if_false, eq_self, Bool.false_eq_true, cl2_id, Bool.not_true, Bool.not_false]
          exact f1
        · rw [Bool.true_and]
          exact f4
theorem gm17s (hO : KO r s) {v side : Nat} (hs : side ≤ 1) (hv : v ≤ z_mo r) {k4 : Int32 → Int32 → Me → Option (Int32 × Me)} {n : Nat} {F : List Nat} (h : KC m t r s) (hG : GR m F) (hF : F.length ≤ 6 * (2 * v + side)) : ∃ m', fX10_gatherMistakes_17 (n + 1) k4 (nI F.length) (nI v) (nI side) m = fX10_gatherMistakes_17 n k4 (nI (F ++ z_fl (mkg r s side v) (mkc side v) 0 (r 5)).length) (nI v) (nI (side + 1)) m' ∧ Ak sC m m' ∧ KC m' t r s ∧ GR m' (F ++ z_fl (mkg r s side v) (mkc side v) 0 (r 5)) := by
  have h5 := hO.1.2.2.2.1
  have hmo := z_mo_le hO.1.1
  obtain ⟨m1, e1, a1, b1, c1, -, d1, -⟩ := h.look hO (a := 88) (br := s 60) (side := side) (op := v) (by decide) hs hv hO.s60
  have e1' : fX10_lookAt (nI side) (nI v) m = some m1 := by
    unfold fX10_lookAt
    rw [h.1, h.2.2.2.1.2.1, e1]
    rfl
  obtain ⟨m2, e2, a2, b2, c2⟩ := gm31 (t := t) hO hs hv (k4 := k4) (k17 := fX10_gatherMistakes_17 n k4) (r 5) 0 FU F m1 b1 c1 (hG.eq (fun b k hb => d1 b k (by omega) (by omega) (by omega))) (by omega) (FU_pos (by omega)) (by omega)
  refine ⟨m2, ?_, a1.tr a2, b2, c2⟩
  rw [fX10_gatherMistakes_17]
  simp (disch := omega) only [e1', cl2_so, cl1_so, ck_tr, zl_0, zl_1, zl_2, zl_3, zl_4, zl_5, zl_6, zl_7, zl_8, zl_9, zl_10, zl_11, zl_12, zl_15, zl_16, zl_20, zl_24, zl_25, zl_30, zl_31, zl_32, zl_33, zl_44, zl_48, zl_50, zl_57, zl_59, zl_60, zl_61, zl_62, zl_63, zl_64, zl_68, zl_97, zl_99, zl_100, zl_104, zl_108, zl_114, zl_120, zl_122, zl_126, zl_132, zl_180, zl_181, zl_186, zl_255, zl_900, zl_930, zl_1000, zl_1000000, nI_add, pk_mul, zs_sub, zs_lt, zs_le, zs_eq, zs_inb, zs_cl, zm_eq, zm_eq2, zm_lt, zm_le, mz_lt, mz_le, mm_eq, zs_bit, zs_or1, zs_div, zs_rem, ck_pos, if_pos, if_neg, true_or, or_true, true_and, and_true, false_or, or_false, false_and, and_false, not_true, not_false_iff, if_true, if_false, eq_self, Bool.false_eq_true, cl2_id, Bool.not_true, Bool.not_false]
  exact e2
theorem gm17 (hO : KO r s) {v : Nat} (hv : v ≤ z_mo r) {k4 : Int32 → Int32 → Me → Option (Int32 × Me)} {n : Nat} {F : List Nat} (hn : 2 < n) (h : KC m t r s) (hG : GR m F) (hF : F.length ≤ 12 * v) : ∃ m', fX10_gatherMistakes_17 n k4 (nI F.length) (nI v) (nI 0) m = k4 (nI (F ++ mkv r s v).length) (nI (v + 1)) m' ∧ Ak sC m m' ∧ KC m' t r s ∧ GR m' (F ++ mkv r s v) := by
  have h5 := hO.1.2.2.2.1
  have hmo := z_mo_le hO.1.1
  obtain ⟨n, rfl⟩ : ∃ n', n = n' + 1 + 1 + 1 := ⟨n - 3, by omega⟩
  have l1 := z_fl_len (mkg r s 0 v) (mkc 0 v) (r 5) 0
  obtain ⟨m2, e2, a2, b2, c2⟩ := gm17s (t := t) hO (side := 0) (by omega) hv (k4 := k4) (n := n + 1 + 1) h hG (by omega)
  obtain ⟨m4, e4, a4, b4, c4⟩ := gm17s (t := t) hO (side := 1) (by omega) hv (k4 := k4) (n := n + 1) b2 c2 (by rw [List.length_append]; omega)
  have e5 : fX10_gatherMistakes_17 (n + 1) k4 (nI (F ++ z_fl (mkg r s 0 v) (mkc 0 v) 0 (r 5) ++ z_fl (mkg r s 1 v) (mkc 1 v) 0 (r 5)).length) (nI v) (nI (1 + 1)) m4 = k4 (nI (F ++ mkv r s v).length) (nI (v + 1)) m4 := by
    rw [fX10_gatherMistakes_17]
    unfold mkv
    simp (disch := omega) only [List.append_assoc, cl2_so, cl1_so, ck_tr, zl_0, zl_1, zl_2, zl_3, zl_4, zl_5, zl_6, zl_7, zl_8, zl_9, zl_10, zl_11, zl_12, zl_15, zl_16, zl_20, zl_24, zl_25, zl_30, zl_31, zl_32, zl_33, zl_44, zl_48, zl_50, zl_57, zl_59, zl_60, zl_61, zl_62, zl_63, zl_64, zl_68, zl_97, zl_99, zl_100, zl_104, zl_108, zl_114, zl_120, zl_122, zl_126, zl_132, zl_180, zl_181, zl_186, zl_255, zl_900, zl_930, zl_1000, zl_1000000, nI_add, pk_mul, zs_sub, zs_lt, zs_le, zs_eq, zs_inb, zs_cl, zm_eq, zm_eq2, zm_lt, zm_le, mz_lt, mz_le, mm_eq, zs_bit, zs_or1, zs_div, zs_rem, ck_pos, if_pos, if_neg, true_or, or_true, true_and, and_true, false_or, or_false, false_and, and_false, not_true, not_false_iff, if_true, if_false, eq_self, Bool.false_eq_true, cl2_id, Bool.not_true, Bool.not_false]
  exact ⟨m4, e2.trans (e4.trans e5), a2.tr a4, b4, by unfold mkv; rw [← List.append_assoc]; exact c4⟩
theorem mkv_len (r s : Nat → Nat) (v : Nat) : (mkv r s v).length ≤ 2 * r 5 := by
  have l1 := z_fl_len (mkg r s 0 v) (mkc 0 v) (r 5) 0
  have l2 := z_fl_len (mkg r s 1 v) (mkc 1 v) (r 5) 0
  unfold mkv
  rw [List.length_append]
  omega
theorem gm4 (hO : KO r s) : ∀ j k n F (m : Me), KC m t r s → GR m F → k + j = z_mo r + 1 → j < n → F.length ≤ 12 * k → ∃ m', fX10_gatherMistakes_4 n (nI F.length) (nI k) m = some (nI (F ++ zmv r s k j).length, m') ∧ Ak sC m m' ∧ KC m' t r s ∧ GR m' (F ++ zmv r s k j) := by
  have h5 := hO.1.2.2.2.1
  have hmo := z_mo_le hO.1.1
  intro j
  induction j with
  | zero =>
    intro k n F m h hG hk hn hF
    obtain ⟨n, rfl⟩ : ∃ n', n = n' + 1 := ⟨n - 1, by omega⟩
    rw [zmv, List.append_nil]
    refine ⟨m, ?_, Ak.rf m, h, hG⟩
    rw [fX10_gatherMistakes_4]
    simp (disch := omega) only [h.1, h.openings hO, cl2_so, cl1_so, ck_tr, zl_0, zl_1, zl_2, zl_3, zl_4, zl_5, zl_6, zl_7, zl_8, zl_9, zl_10, zl_11, zl_12, zl_15, zl_16, zl_20, zl_24, zl_25, zl_30, zl_31, zl_32, zl_33, zl_44, zl_48, zl_50, zl_57, zl_59, zl_60, zl_61, zl_62, zl_63, zl_64, zl_68, zl_97, zl_99, zl_100, zl_104, zl_108, zl_114, zl_120, zl_122, zl_126, zl_132, zl_180, zl_181, zl_186, zl_255, zl_900, zl_930, zl_1000, zl_1000000, nI_add, pk_mul, zs_sub, zs_lt, zs_le, zs_eq, zs_inb, zs_cl, zm_eq, zm_eq2, zm_lt, zm_le, mz_lt, mz_le, mm_eq, zs_bit, zs_or1, zs_div, zs_rem, ck_pos, if_pos, if_neg, true_or, or_true, true_and, and_true, false_or, or_false, false_and, and_false, not_true, not_false_iff, if_true, if_false, eq_self, Bool.false_eq_true, cl2_id, Bool.not_true, Bool.not_false]
  | succ j ih =>
    intro k n F m h hG hk hn hF
    obtain ⟨n, rfl⟩ : ∃ n', n = n' + 1 := ⟨n - 1, by omega⟩
    obtain ⟨m1, e1, a1, b1, c1⟩ := gm17 (t := t) hO (v := k) (by omega) (k4 := fX10_gatherMistakes_4 n) (n := FU) (by decide) h hG hF
    have hl := mkv_len r s k
    obtain ⟨m2, e2, a2, b2, c2⟩ := ih (k + 1) n (F ++ mkv r s k) m1 b1 c1 (by omega) (by omega) (by rw [List.length_append]; omega)
    rw [zmv, ← List.append_assoc]
    refine ⟨m2, ?_, a1.tr a2, b2, c2⟩
    rw [fX10_gatherMistakes_4]
    simp (disch := omega) only [h.1, h.openings hO, e1, cl2_so, cl1_so, ck_tr, zl_0, zl_1, zl_2, zl_3, zl_4, zl_5, zl_6, zl_7, zl_8, zl_9, zl_10, zl_11, zl_12, zl_15, zl_16, zl_20, zl_24, zl_25, zl_30, zl_31, zl_32, zl_33, zl_44, zl_48, zl_50, zl_57, zl_59, zl_60, zl_61, zl_62, zl_63, zl_64, zl_68, zl_97, zl_99, zl_100, zl_104, zl_108, zl_114, zl_120, zl_122, zl_126, zl_132, zl_180, zl_181, zl_186, zl_255, zl_900, zl_930, zl_1000, zl_1000000, nI_add, pk_mul, zs_sub, zs_lt, zs_le, zs_eq, zs_inb, zs_cl, zm_eq, zm_eq2, zm_lt, zm_le, mz_lt, mz_le, mm_eq, zs_bit, zs_or1, zs_div, zs_rem, ck_pos, if_pos, if_neg, true_or, or_true, true_and, and_true, false_or, or_false, false_and, and_false, not_true, not_false_iff, if_true, if_false, eq_self, Bool.false_eq_true, cl2_id, Bool.not_true, Bool.not_false]
    exact e2
theorem KC.mistakes (h : KC m t r s) (hO : KO r s) : ∃ m', fX10_gatherMistakes m = some (nI (zmv r s 0 (z_mo r + 1)).length, m') ∧ Ak sC m m' ∧ KC m' t r s ∧ GR m' (zmv r s 0 (z_mo r + 1)) := by
  have hmo := z_mo_le hO.1.1
  exact gm4 hO (z_mo r + 1) 0 FU [] m h (fun i hi => by simp at hi) (by omega) (FU_pos (by omega)) (by simp)
/-! the reference -/
def mkR (X : Option Nat) (l : List Nat) : Int32 := match X with
  | none => nI l.length - nI 1000000
  | some i => match l[i]? with
    | some c => nI c
    | none => nI l.length - nI 1000000
theorem mkR_at {X : Option Nat} {D E : List Nat} {p : Nat} (h : X = some D.length) : mkR X (D ++ p :: E) = nI p := by
  subst h
  unfold mkR
  simp
theorem mkR_no {X : Option Nat} {D : List Nat} (h : ∀ i, X = some i → D.length ≤ i) : mkR X D = nI D.length - nI 1000000 := by
  unfold mkR
  cases X with
  | none => rfl
  | some i => simp [h i rfl]
theorem ma27 (hO : KO r s) {side v : Nat} (hs : side ≤ 1) (hv : v ≤ z_mo r) {X : Option Nat} (hX : ∀ i, X = some i → i < 2147483648) {k4 : Int32 → Int32 → Int32 → Me → Option (Int32 × Me)} {k18 : Int32 → Int32 → Int32 → Int32 → Me → Option (Int32 × Me)} {rest : List Nat} : ∀ j k n F (m : Me), KM m r s → k + j = r 5 → j < n → F.length ≤ 6 * (2 * v + side) + k → (∀ i, X = some i → F.length ≤ i) → (∀ m', KM m' r s → (∀ i, X = some i → (F ++ z_fl (mkg r s side v) (mkc side v) k j).length ≤ i) → ∃ m'', k18 (XI X) (nI (F ++ z_fl (mkg r s side v) (mkc side v) k j).length) (nI v) (nI (side + 1)) m' = some (mkR X (F ++ z_fl (mkg r s side v) (mkc side v) k j ++ rest), m'') ∧ Ak sN m' m'') → ∃ m'', fX11_mistakeAt_27 n k4 k18 (XI X) (nI F.length) (nI v) (nI side) (nI k) m = some (mkR X (F ++ z_fl (mkg r s side v) (mkc side v) k j ++ rest), m'') ∧ Ak sN m m'' := by
  have h5 := hO.1.2.2.2.1
  have hmo := z_mo_le hO.1.1
  intro j
  induction j with
  | zero =>
    intro k n F m h hk hn hF hX2 hK
    obtain ⟨n, rfl⟩ : ∃ n', n = n' + 1 := ⟨n - 1, by omega⟩
    rw [fX11_mistakeAt_27]
    simp only [z_fl, List.append_nil] at hK ⊢
    obtain ⟨m2, f1, f2⟩ := hK m h hX2
    refine ⟨m2, ?_, f2⟩
    simp (disch := omega) only [h.2.1 5 (by omega), cl2_so, cl1_so, ck_tr, zl_0, zl_1, zl_2, zl_3, zl_4, zl_5, zl_6, zl_7, zl_8, zl_9, zl_10, zl_11, zl_12, zl_15, zl_16, zl_20, zl_24, zl_25, zl_30, zl_31, zl_32, zl_33, zl_44, zl_48, zl_50, zl_57, zl_59, zl_60, zl_61, zl_62, zl_63, zl_64, zl_68, zl_97, zl_99, zl_100, zl_104, zl_108, zl_114, zl_120, zl_122, zl_126, zl_132, zl_180, zl_181, zl_186, zl_255, zl_900, zl_930, zl_1000, zl_1000000, nI_add, pk_mul, zs_sub, zs_lt, zs_le, zs_eq, zs_inb, zs_cl, zm_eq, zm_eq2, zm_lt, zm_le, mz_lt, mz_le, mm_eq, zs_bit, zs_or1, zs_div, zs_rem, ck_pos, if_pos, if_neg, true_or, or_true, true_and, and_true, false_or, or_false, false_and, and_false, not_true, not_false_iff, if_true, if_false, eq_self, Bool.false_eq_true, cl2_id, Bool.not_true, Bool.not_false]
    exact f1
  | succ j ih =>
    intro k n F m h hk hn hF hX2 hK
    obtain ⟨n, rfl⟩ : ∃ n', n = n' + 1 := ⟨n - 1, by omega⟩
    obtain ⟨m1, e, g1, g2, -⟩ := h.readsWord hO (w := k) (by omega) hs hv
    have hbd : z_rdN (z_word r k) (zT r s side v (s 60)) ≤ 30 := Nat.le_trans (z_ct_le _ _ _) (zT_30 hO _ hv)
    have e4 := g2.wished hO (w := k) (by omega) hs hv
    have e5 := h.2.1 5 (by omega)
    rw [fX11_mistakeAt_27]
    rw [z_fl] at hK ⊢
    have hg' : mkg r s side v k = (rd (z_word r k) (zT r s side v (s 60)) && !wis r k side v) := rfl
    unfold fX11_mistakeAt_87
    cases hg : rd (z_word r k) (zT r s side v (s 60))
    · have h0 := rd_0 hg
      rw [hg', hg, Bool.false_and] at hK ⊢
      obtain ⟨m2, f1, f2⟩ := ih (k + 1) n F m1 g2 (by omega) (by omega) (by omega) hX2 hK
      refine ⟨m2, ?_, g1.tr f2⟩
      simp (disch := omega) only [e5, e, h0, cl2_so, cl1_so, ck_tr, zl_0, zl_1, zl_2, zl_3, zl_4, zl_5, zl_6, zl_7, zl_8, zl_9, zl_10, zl_11, zl_12, zl_15, zl_16, zl_20, zl_24, zl_25, zl_30, zl_31, zl_32, zl_33, zl_44, zl_48, zl_50, zl_57, zl_59, zl_60, zl_61, zl_62, zl_63, zl_64, zl_68, zl_97, zl_99, zl_100, zl_104, zl_108, zl_114, zl_120, zl_122, zl_126, zl_132, zl_180, zl_181, zl_186, zl_255, zl_900, zl_930, zl_1000, zl_1000000, nI_add, pk_mul, zs_sub, zs_lt, zs_le, zs_eq, zs_inb, zs_cl, zm_eq, zm_eq2, zm_lt, zm_le, mz_lt, mz_le, mm_eq, zs_bit, zs_or1, zs_div, zs_rem, ck_pos, if_pos, if_neg, true_or, or_true, true_and, and_true, false_or, or_false, false_and, and_false, not_true, not_false_iff, if_true, if_false, eq_self, Bool.false_eq_true, cl2_id, Bool.not_true, Bool.not_false]
      exact f1
    · have h0 := rd_1 hg
      cases hq : wis r k side v
      · rw [hg', hg, hq] at hK ⊢
        simp only [Bool.true_and, Bool.not_false, if_true] at hK ⊢
        by_cases hx : X = some F.length
        · have e6 := (XI_ne hX (n := F.length) (by omega)).mpr hx
          have er : F ++ mkc side v k :: z_fl (mkg r s side v) (mkc side v) (k + 1) j ++ rest = F ++ mkc side v k :: (z_fl (mkg r s side v) (mkc side v) (k + 1) j ++ rest) := by simp
          rw [er, mkR_at hx]
          refine ⟨m1, ?_, g1⟩
          unfold mkc
          simp (disch := omega) only [e5, e, e4, hq, e6, cl2_so, cl1_so, ck_tr, zl_0, zl_1, zl_2, zl_3, zl_4, zl_5, zl_6, zl_7, zl_8, zl_9, zl_10, zl_11, zl_12, zl_15, zl_16, zl_20, zl_24, zl_25, zl_30, zl_31, zl_32, zl_33, zl_44, zl_48, zl_50, zl_57, zl_59, zl_60, zl_61, zl_62, zl_63, zl_64, zl_68, zl_97, zl_99, zl_100, zl_104, zl_108, zl_114, zl_120, zl_122, zl_126, zl_132, zl_180, zl_181, zl_186, zl_255, zl_900, zl_930, zl_1000, zl_1000000, nI_add, pk_mul, zs_sub, zs_lt, zs_le, zs_eq, zs_inb, zs_cl, zm_eq, zm_eq2, zm_lt, zm_le, mz_lt, mz_le, mm_eq, zs_bit, zs_or1, zs_div, zs_rem, ck_pos, if_pos, if_neg, true_or, or_true, true_and, and_true, false_or, or_false, false_and, and_false, not_true, not_false_iff, if_true, if_false, eq_self, Bool.false_eq_true, cl2_id, Bool.not_true, Bool.not_false]
        · have e6 : ¬ nI F.length = XI X := fun q => hx ((XI_ne hX (n := F.length) (by omega)).mp q)
          have el : F ++ mkc side v k :: z_fl (mkg r s side v) (mkc side v) (k + 1) j = F ++ [mkc side v k] ++ z_fl (mkg r s side v) (mkc side v) (k + 1) j := by simp
          rw [el] at hK ⊢
          obtain ⟨m2, f1, f2⟩ := ih (k + 1) n (F ++ [mkc side v k]) m1 g2 (by omega) (by omega) (by simp; omega) (fun i hi => by
            have := hX2 i hi
            simp
            rcases Nat.lt_or_ge F.length i with q | q
            · omega
            · exact absurd (by rw [hi]; congr 1; omega) hx) hK
          refine ⟨m2, ?_, g1.tr f2⟩
          simp (disch := omega) only [e5, e, e4, hq, e6, cl2_so, cl1_so, ck_tr, zl_0, zl_1, zl_2, zl_3, zl_4, zl_5, zl_6, zl_7, zl_8, zl_9, zl_10, zl_11, zl_12, zl_15, zl_16, zl_20, zl_24, zl_25, zl_30, zl_31, zl_32, zl_33, zl_44, zl_48, zl_50, zl_57, zl_59, zl_60, zl_61, zl_62, zl_63, zl_64, zl_68, zl_97, zl_99, zl_100, zl_104, zl_108, zl_114, zl_120, zl_122, zl_126, zl_132, zl_180, zl_181, zl_186, zl_255, zl_900, zl_930, zl_1000, zl_1000000, nI_add, pk_mul, zs_sub, zs_lt, zs_le, zs_eq, zs_inb, zs_cl, zm_eq, zm_eq2, zm_lt, zm_le, mz_lt, mz_le, mm_eq, zs_bit, zs_or1, zs_div, zs_rem, ck_pos, if_pos, if_neg, true_or, or_true, true_and, and_true, false_or, or_false, false_and, and_false, not_true, not_false_iff, if_true, if_false, eq_self, Bool.false_eq_true, cl2_id, Bool.not_true, Bool.not_false]
          simp only [List.length_append, List.length_singleton] at f1 ⊢
          exact f1
      · rw [hg', hg, hq] at hK ⊢
        simp only [Bool.true_and, Bool.not_true, Bool.false_eq_true, if_false] at hK ⊢
        obtain ⟨m2, f1, f2⟩ := ih (k + 1) n F m1 g2 (by omega) (by omega) (by omega) hX2 hK
        refine ⟨m2, ?_, g1.tr f2⟩
        simp (disch := omega) only [e5, e, e4, hq, cl2_so, cl1_so, ck_tr, zl_0, zl_1, zl_2, zl_3, zl_4, zl_5, zl_6, zl_7, zl_8, zl_9, zl_10, zl_11, zl_12, zl_15, zl_16, zl_20, zl_24, zl_25, zl_30, zl_31, zl_32, zl_33, zl_44, zl_48, zl_50, zl_57, zl_59, zl_60, zl_61, zl_62, zl_63, zl_64, zl_68, zl_97, zl_99, zl_100, zl_104, zl_108, zl_114, zl_120, zl_122, zl_126, zl_132, zl_180, zl_181, zl_186, zl_255, zl_900, zl_930, zl_1000, zl_1000000, nI_add, pk_mul, zs_sub, zs_lt, zs_le, zs_eq, zs_inb, zs_cl, zm_eq, zm_eq2, zm_lt, zm_le, mz_lt, mz_le, mm_eq, zs_bit, zs_or1, zs_div, zs_rem, ck_pos, if_pos, if_neg, true_or, or_true, true_and, and_true, false_or, or_false, false_and, and_false, not_true, not_false_iff, if_true, if_false, eq_self, Bool.false_eq_true, cl2_id, Bool.not_true, Bool.not_false]
        exact f1
theorem ma4 (hO : KO r s) {X : Option Nat} (hX : ∀ i, X = some i → i < 2147483648) : ∀ j k n F (m : Me), KM m r s → k + j = z_mo r + 1 → j < n → F.length ≤ 12 * k → (∀ i, X = some i → F.length ≤ i) → ∃ m'', fX11_mistakeAt_4 n (XI X) (nI F.length) (nI k) m = some (mkR X (F ++ zmv r s k j), m'') ∧ Ak sN m m'' := by
  have h5 := hO.1.2.2.2.1
  have hmo := z_mo_le hO.1.1
  intro j
  induction j with
  | zero =>
    intro k n F m h hk hn hF hX2
    obtain ⟨n, rfl⟩ : ∃ n', n = n' + 1 := ⟨n - 1, by omega⟩
    rw [zmv, List.append_nil, mkR_no hX2]
    refine ⟨m, ?_, Ak.rf m⟩
    rw [fX11_mistakeAt_4]
    simp (disch := omega) only [h.mostOpen hO, cl2_so, cl1_so, ck_tr, zl_0, zl_1, zl_2, zl_3, zl_4, zl_5, zl_6, zl_7, zl_8, zl_9, zl_10, zl_11, zl_12, zl_15, zl_16, zl_20, zl_24, zl_25, zl_30, zl_31, zl_32, zl_33, zl_44, zl_48, zl_50, zl_57, zl_59, zl_60, zl_61, zl_62, zl_63, zl_64, zl_68, zl_97, zl_99, zl_100, zl_104, zl_108, zl_114, zl_120, zl_122, zl_126, zl_132, zl_180, zl_181, zl_186, zl_255, zl_900, zl_930, zl_1000, zl_1000000, nI_add, pk_mul, zs_sub, zs_lt, zs_le, zs_eq, zs_inb, zs_cl, zm_eq, zm_eq2, zm_lt, zm_le, mz_lt, mz_le, mm_eq, zs_bit, zs_or1, zs_div, zs_rem, ck_pos, if_pos, if_neg, true_or, or_true, true_and, and_true, false_or, or_false, false_and, and_false, not_true, not_false_iff, if_true, if_false, eq_self, Bool.false_eq_true, cl2_id, Bool.not_true, Bool.not_false]
  | succ j ih =>
    intro k n F m h hk hn hF hX2
    obtain ⟨n, rfl⟩ : ∃ n', n = n' + 1 := ⟨n - 1, by omega⟩
    have l1 := z_fl_len (mkg r s 0 k) (mkc 0 k) (r 5) 0
    have l2 := z_fl_len (mkg r s 1 k) (mkc 1 k) (r 5) 0
    have ez : F ++ zmv r s k (j + 1) = F ++ z_fl (mkg r s 0 k) (mkc 0 k) 0 (r 5) ++ (z_fl (mkg r s 1 k) (mkc 1 k) 0 (r 5) ++ zmv r s (k + 1) j) := by simp [zmv, mkv]
    rw [ez]
    obtain ⟨m2, f1, f2⟩ := ma27 hO (side := 0) (v := k) (by omega) (by omega) hX (k4 := fX11_mistakeAt_4 n) (k18 := fX11_mistakeAt_18 1999 (fX11_mistakeAt_4 n)) (rest := z_fl (mkg r s 1 k) (mkc 1 k) 0 (r 5) ++ zmv r s (k + 1) j) (r 5) 0 FU F m h (by omega) (FU_pos (by omega)) (by omega) hX2 (fun m1 h1 hX3 => by
      rw [show 1999 = 1998 + 1 from rfl, fX11_mistakeAt_18]
      rw [← List.append_assoc]
      obtain ⟨m3, f3, f4⟩ := ma27 hO (side := 1) (v := k) (by omega) (by omega) hX (k4 := fX11_mistakeAt_4 n) (k18 := fX11_mistakeAt_18 1998 (fX11_mistakeAt_4 n)) (rest := zmv r s (k + 1) j) (r 5) 0 FU (F ++ z_fl (mkg r s 0 k) (mkc 0 k) 0 (r 5)) m1 h1 (by omega) (FU_pos (by omega)) (by rw [List.length_append]; omega) hX3 (fun m4 h4 hX4 => by
        rw [show 1998 = 1997 + 1 from rfl, fX11_mistakeAt_18]
        obtain ⟨m5, f5, f6⟩ := ih (k + 1) n (F ++ z_fl (mkg r s 0 k) (mkc 0 k) 0 (r 5) ++ z_fl (mkg r s 1 k) (mkc 1 k) 0 (r 5)) m4 h4 (by omega) (by omega) (by rw [List.length_append, List.length_append]; omega) hX4
        refine ⟨m5, ?_, f6⟩
        simp (disch := omega) only [cl2_so, cl1_so, ck_tr, zl_0, zl_1, zl_2, zl_3, zl_4, zl_5, zl_6, zl_7, zl_8, zl_9, zl_10, zl_11, zl_12, zl_15, zl_16, zl_20, zl_24, zl_25, zl_30, zl_31, zl_32, zl_33, zl_44, zl_48, zl_50, zl_57, zl_59, zl_60, zl_61, zl_62, zl_63, zl_64, zl_68, zl_97, zl_99, zl_100, zl_104, zl_108, zl_114, zl_120, zl_122, zl_126, zl_132, zl_180, zl_181, zl_186, zl_255, zl_900, zl_930, zl_1000, zl_1000000, nI_add, pk_mul, zs_sub, zs_lt, zs_le, zs_eq, zs_inb, zs_cl, zm_eq, zm_eq2, zm_lt, zm_le, mz_lt, mz_le, mm_eq, zs_bit, zs_or1, zs_div, zs_rem, ck_pos, if_pos, if_neg, true_or, or_true, true_and, and_true, false_or, or_false, false_and, and_false, not_true, not_false_iff, if_true, if_false, eq_self, Bool.false_eq_true, cl2_id, Bool.not_true, Bool.not_false]
        exact f5)
      refine ⟨m3, ?_, f4⟩
      simp (disch := omega) only [cl2_so, cl1_so, ck_tr, zl_0, zl_1, zl_2, zl_3, zl_4, zl_5, zl_6, zl_7, zl_8, zl_9, zl_10, zl_11, zl_12, zl_15, zl_16, zl_20, zl_24, zl_25, zl_30, zl_31, zl_32, zl_33, zl_44, zl_48, zl_50, zl_57, zl_59, zl_60, zl_61, zl_62, zl_63, zl_64, zl_68, zl_97, zl_99, zl_100, zl_104, zl_108, zl_114, zl_120, zl_122, zl_126, zl_132, zl_180, zl_181, zl_186, zl_255, zl_900, zl_930, zl_1000, zl_1000000, nI_add, pk_mul, zs_sub, zs_lt, zs_le, zs_eq, zs_inb, zs_cl, zm_eq, zm_eq2, zm_lt, zm_le, mz_lt, mz_le, mm_eq, zs_bit, zs_or1, zs_div, zs_rem, ck_pos, if_pos, if_neg, true_or, or_true, true_and, and_true, false_or, or_false, false_and, and_false, not_true, not_false_iff, if_true, if_false, eq_self, Bool.false_eq_true, cl2_id, Bool.not_true, Bool.not_false]
      exact f3)
    refine ⟨m2, ?_, f2⟩
    rw [fX11_mistakeAt_4]
    have eF : FU = 1999 + 1 := rfl
    simp (disch := omega) only [h.mostOpen hO, cl2_so, cl1_so, ck_tr, zl_0, zl_1, zl_2, zl_3, zl_4, zl_5, zl_6, zl_7, zl_8, zl_9, zl_10, zl_11, zl_12, zl_15, zl_16, zl_20, zl_24, zl_25, zl_30, zl_31, zl_32, zl_33, zl_44, zl_48, zl_50, zl_57, zl_59, zl_60, zl_61, zl_62, zl_63, zl_64, zl_68, zl_97, zl_99, zl_100, zl_104, zl_108, zl_114, zl_120, zl_122, zl_126, zl_132, zl_180, zl_181, zl_186, zl_255, zl_900, zl_930, zl_1000, zl_1000000, nI_add, pk_mul, zs_sub, zs_lt, zs_le, zs_eq, zs_inb, zs_cl, zm_eq, zm_eq2, zm_lt, zm_le, mz_lt, mz_le, mm_eq, zs_bit, zs_or1, zs_div, zs_rem, ck_pos, if_pos, if_neg, true_or, or_true, true_and, and_true, false_or, or_false, false_and, and_false, not_true, not_false_iff, if_true, if_false, eq_self, Bool.false_eq_true, cl2_id, Bool.not_true, Bool.not_false]
    rw [eF, fX11_mistakeAt_18]
    simp (disch := omega) only [cl2_so, cl1_so, ck_tr, zl_0, zl_1, zl_2, zl_3, zl_4, zl_5, zl_6, zl_7, zl_8, zl_9, zl_10, zl_11, zl_12, zl_15, zl_16, zl_20, zl_24, zl_25, zl_30, zl_31, zl_32, zl_33, zl_44, zl_48, zl_50, zl_57, zl_59, zl_60, zl_61, zl_62, zl_63, zl_64, zl_68, zl_97, zl_99, zl_100, zl_104, zl_108, zl_114, zl_120, zl_122, zl_126, zl_132, zl_180, zl_181, zl_186, zl_255, zl_900, zl_930, zl_1000, zl_1000000, nI_add, pk_mul, zs_sub, zs_lt, zs_le, zs_eq, zs_inb, zs_cl, zm_eq, zm_eq2, zm_lt, zm_le, mz_lt, mz_le, mm_eq, zs_bit, zs_or1, zs_div, zs_rem, ck_pos, if_pos, if_neg, true_or, or_true, true_and, and_true, false_or, or_false, false_and, and_false, not_true, not_false_iff, if_true, if_false, eq_self, Bool.false_eq_true, cl2_id, Bool.not_true, Bool.not_false]
    exact f1
theorem KM.mistakes (h : KM m r s) (hO : KO r s) {X : Option Nat} (hX : ∀ i, X = some i → i < 2147483648) : ∃ m', fX11_mistakeAt (XI X) m = some (mkR X (zmv r s 0 (z_mo r + 1)), m') ∧ Ak sN m m' := by
  have hmo := z_mo_le hO.1.1
  exact ma4 hO hX (z_mo r + 1) 0 FU [] m h (by omega) (FU_pos (by omega)) (by simp) (fun i hi => by simp)
theorem zmv_len (r s : Nat → Nat) : ∀ j k, (zmv r s k j).length ≤ 2 * r 5 * j
  | 0, k => by simp [zmv]
  | j + 1, k => by
    have h1 := mkv_len r s k
    have h2 := zmv_len r s j (k + 1)
    rw [zmv, List.length_append, Nat.mul_add]
    omega
theorem z_fl_mem (g : Nat → Bool) (f : Nat → Nat) : ∀ j k x, x ∈ z_fl g f k j → ∃ i, i < k + j ∧ x = f i
  | 0, k, x, h => by simp [z_fl] at h
  | j + 1, k, x, h => by
    rw [z_fl] at h
    split at h
    · rcases List.mem_cons.mp h with rfl | h
      · exact ⟨k, by omega, rfl⟩
      · obtain ⟨i, hi, e⟩ := z_fl_mem g f j (k + 1) x h
        exact ⟨i, by omega, e⟩
    · obtain ⟨i, hi, e⟩ := z_fl_mem g f j (k + 1) x h
      exact ⟨i, by omega, e⟩
theorem zmv_mem (hr : r 5 ≤ 6) : ∀ j k x, k + j ≤ 28 → x ∈ zmv r s k j → x < 1000
  | 0, k, x, _, h => by simp [zmv] at h
  | j + 1, k, x, hk, h => by
    rw [zmv] at h
    rcases List.mem_append.mp h with h | h
    · unfold mkv at h
      rcases List.mem_append.mp h with h | h
      · obtain ⟨i, hi, rfl⟩ := z_fl_mem _ _ _ _ _ h
        unfold mkc
        omega
      · obtain ⟨i, hi, rfl⟩ := z_fl_mem _ _ _ _ _ h
        unfold mkc
        omega
    · exact zmv_mem hr j (k + 1) x (by omega) h
theorem b_mistakes (hI : Inv m) (hC : JC m H r s) (hM : JM m H r s) (hO : JO H r s) : Both fX10_mistakes fX11_mistakes m := by
  cases H
  · refine ⟨-nI 1, 1, ?_, fun m1 h1 => ?_⟩
    · have e : m.1 0 4 = nI 0 := hC.1
      unfold fX10_mistakes fX10_mistakes_23
      simp (disch := omega) only [e, cl2_so, cl1_so, ck_tr, zl_0, zl_1, zl_2, zl_3, zl_4, zl_5, zl_6, zl_7, zl_8, zl_9, zl_10, zl_11, zl_12, zl_15, zl_16, zl_20, zl_24, zl_25, zl_30, zl_31, zl_32, zl_33, zl_44, zl_48, zl_50, zl_57, zl_59, zl_60, zl_61, zl_62, zl_63, zl_64, zl_68, zl_97, zl_99, zl_100, zl_104, zl_108, zl_114, zl_120, zl_122, zl_126, zl_132, zl_180, zl_181, zl_186, zl_255, zl_900, zl_930, zl_1000, zl_1000000, nI_add, pk_mul, zs_sub, zs_lt, zs_le, zs_eq, zs_inb, zs_cl, zm_eq, zm_eq2, zm_lt, zm_le, mz_lt, mz_le, mm_eq, zs_bit, zs_or1, zs_div, zs_rem, ck_pos, if_pos, if_neg, true_or, or_true, true_and, and_true, false_or, or_false, false_and, and_false, not_true, not_false_iff, if_true, if_false, eq_self, Bool.false_eq_true, cl2_id, Bool.not_true, Bool.not_false]
      exact ansC_no 1 (Ak.rf m)
    · have hM1 := hM.ag (h1.agC.tr (gd_ak m1).agM)
      have e : (gdM m1).1 138 14 = nI 0 := hM1.1
      unfold fX11_mistakes fX11_mistakes_28
      simp (disch := omega) only [gd_e, e, cl2_so, cl1_so, ck_tr, zl_0, zl_1, zl_2, zl_3, zl_4, zl_5, zl_6, zl_7, zl_8, zl_9, zl_10, zl_11, zl_12, zl_15, zl_16, zl_20, zl_24, zl_25, zl_30, zl_31, zl_32, zl_33, zl_44, zl_48, zl_50, zl_57, zl_59, zl_60, zl_61, zl_62, zl_63, zl_64, zl_68, zl_97, zl_99, zl_100, zl_104, zl_108, zl_114, zl_120, zl_122, zl_126, zl_132, zl_180, zl_181, zl_186, zl_255, zl_900, zl_930, zl_1000, zl_1000000, nI_add, pk_mul, zs_sub, zs_lt, zs_le, zs_eq, zs_inb, zs_cl, zm_eq, zm_eq2, zm_lt, zm_le, mz_lt, mz_le, mm_eq, zs_bit, zs_or1, zs_div, zs_rem, ck_pos, if_pos, if_neg, true_or, or_true, true_and, and_true, false_or, or_false, false_and, and_false, not_true, not_false_iff, if_true, if_false, eq_self, Bool.false_eq_true, cl2_id, Bool.not_true, Bool.not_false]
      exact ansM_no 1 (gd_ak m1)
  · have hK : KO r s := hO rfl
    obtain ⟨m', e, g1, g2, -⟩ := (hC.kc hI).mistakes hK
    refine ⟨nI (zmv r s 0 (z_mo r + 1)).length, 0, ?_, fun m1 h1 => ?_⟩
    · have e0 : m.1 0 4 = nI 1 := hC.1
      unfold fX10_mistakes fX10_mistakes_23
      simp (disch := omega) only [e0, e, cl2_so, cl1_so, ck_tr, zl_0, zl_1, zl_2, zl_3, zl_4, zl_5, zl_6, zl_7, zl_8, zl_9, zl_10, zl_11, zl_12, zl_15, zl_16, zl_20, zl_24, zl_25, zl_30, zl_31, zl_32, zl_33, zl_44, zl_48, zl_50, zl_57, zl_59, zl_60, zl_61, zl_62, zl_63, zl_64, zl_68, zl_97, zl_99, zl_100, zl_104, zl_108, zl_114, zl_120, zl_122, zl_126, zl_132, zl_180, zl_181, zl_186, zl_255, zl_900, zl_930, zl_1000, zl_1000000, nI_add, pk_mul, zs_sub, zs_lt, zs_le, zs_eq, zs_inb, zs_cl, zm_eq, zm_eq2, zm_lt, zm_le, mz_lt, mz_le, mm_eq, zs_bit, zs_or1, zs_div, zs_rem, ck_pos, if_pos, if_neg, true_or, or_true, true_and, and_true, false_or, or_false, false_and, and_false, not_true, not_false_iff, if_true, if_false, eq_self, Bool.false_eq_true, cl2_id, Bool.not_true, Bool.not_false]
      exact ansC_ok _ g1
    · have hM1 := hM.ag (h1.agC.tr (gd_ak m1).agM)
      obtain ⟨m2, e2, f1⟩ := hM1.km.mistakes hK (X := none) (fun i q => by cases q)
      have e0 : (gdM m1).1 138 14 = nI 1 := hM1.1
      have ex : XI none = -nI 1 := rfl
      rw [ex] at e2
      unfold fX11_mistakes fX11_mistakes_28
      simp (disch := omega) only [gd_e, e0, e2, mkR, zs_back, cl2_so, cl1_so, ck_tr, zl_0, zl_1, zl_2, zl_3, zl_4, zl_5, zl_6, zl_7, zl_8, zl_9, zl_10, zl_11, zl_12, zl_15, zl_16, zl_20, zl_24, zl_25, zl_30, zl_31, zl_32, zl_33, zl_44, zl_48, zl_50, zl_57, zl_59, zl_60, zl_61, zl_62, zl_63, zl_64, zl_68, zl_97, zl_99, zl_100, zl_104, zl_108, zl_114, zl_120, zl_122, zl_126, zl_132, zl_180, zl_181, zl_186, zl_255, zl_900, zl_930, zl_1000, zl_1000000, nI_add, pk_mul, zs_sub, zs_lt, zs_le, zs_eq, zs_inb, zs_cl, zm_eq, zm_eq2, zm_lt, zm_le, mz_lt, mz_le, mm_eq, zs_bit, zs_or1, zs_div, zs_rem, ck_pos, if_pos, if_neg, true_or, or_true, true_and, and_true, false_or, or_false, false_and, and_false, not_true, not_false_iff, if_true, if_false, eq_self, Bool.false_eq_true, cl2_id, Bool.not_true, Bool.not_false]
      exact ansN_ok _ f1
theorem b_mistake (hI : Inv m) (hC : JC m H r s) (hM : JM m H r s) (hO : JO H r s) : Both (fX10_mistake x1) (fX11_mistake x1) m := by
  cases H
  · refine ⟨-nI 1, 1, ?_, fun m1 h1 => ?_⟩
    · have e : m.1 0 4 = nI 0 := hC.1
      unfold fX10_mistake fX10_mistake_19
      simp (disch := omega) only [e, cl2_so, cl1_so, ck_tr, zl_0, zl_1, zl_2, zl_3, zl_4, zl_5, zl_6, zl_7, zl_8, zl_9, zl_10, zl_11, zl_12, zl_15, zl_16, zl_20, zl_24, zl_25, zl_30, zl_31, zl_32, zl_33, zl_44, zl_48, zl_50, zl_57, zl_59, zl_60, zl_61, zl_62, zl_63, zl_64, zl_68, zl_97, zl_99, zl_100, zl_104, zl_108, zl_114, zl_120, zl_122, zl_126, zl_132, zl_180, zl_181, zl_186, zl_255, zl_900, zl_930, zl_1000, zl_1000000, nI_add, pk_mul, zs_sub, zs_lt, zs_le, zs_eq, zs_inb, zs_cl, zm_eq, zm_eq2, zm_lt, zm_le, mz_lt, mz_le, mm_eq, zs_bit, zs_or1, zs_div, zs_rem, ck_pos, if_pos, if_neg, true_or, or_true, true_and, and_true, false_or, or_false, false_and, and_false, not_true, not_false_iff, if_true, if_false, eq_self, Bool.false_eq_true, cl2_id, Bool.not_true, Bool.not_false]
      exact ansC_no 1 (Ak.rf m)
    · have hM1 := hM.ag (h1.agC.tr (gd_ak m1).agM)
      have e : (gdM m1).1 138 14 = nI 0 := hM1.1
      unfold fX11_mistake fX11_mistake_23 fX11_mistake_24 fX11_mistake_38
      simp (disch := omega) only [gd_e, e, cl2_so, cl1_so, ck_tr, zl_0, zl_1, zl_2, zl_3, zl_4, zl_5, zl_6, zl_7, zl_8, zl_9, zl_10, zl_11, zl_12, zl_15, zl_16, zl_20, zl_24, zl_25, zl_30, zl_31, zl_32, zl_33, zl_44, zl_48, zl_50, zl_57, zl_59, zl_60, zl_61, zl_62, zl_63, zl_64, zl_68, zl_97, zl_99, zl_100, zl_104, zl_108, zl_114, zl_120, zl_122, zl_126, zl_132, zl_180, zl_181, zl_186, zl_255, zl_900, zl_930, zl_1000, zl_1000000, nI_add, pk_mul, zs_sub, zs_lt, zs_le, zs_eq, zs_inb, zs_cl, zm_eq, zm_eq2, zm_lt, zm_le, mz_lt, mz_le, mm_eq, zs_bit, zs_or1, zs_div, zs_rem, ck_pos, if_pos, if_neg, true_or, or_true, true_and, and_true, false_or, or_false, false_and, and_false, not_true, not_false_iff, if_true, if_false, eq_self, Bool.false_eq_true, cl2_id, Bool.not_true, Bool.not_false]
      exact ansM_no 1 (gd_ak m1)
  · have hK : KO r s := hO rfl
    have e0 : m.1 0 4 = nI 1 := hC.1
    have h5 := hK.1.2.2.2.1
    have hmo := z_mo_le hK.1.1
    by_cases h3 : x1 < 0
    · have h3' : x1 < nI 0 := h3
      refine ⟨-nI 1, 1, ?_, fun m1 h1 => ?_⟩
      · unfold fX10_mistake fX10_mistake_19
        simp (disch := omega) only [e0, h3', cl2_so, cl1_so, ck_tr, zl_0, zl_1, zl_2, zl_3, zl_4, zl_5, zl_6, zl_7, zl_8, zl_9, zl_10, zl_11, zl_12, zl_15, zl_16, zl_20, zl_24, zl_25, zl_30, zl_31, zl_32, zl_33, zl_44, zl_48, zl_50, zl_57, zl_59, zl_60, zl_61, zl_62, zl_63, zl_64, zl_68, zl_97, zl_99, zl_100, zl_104, zl_108, zl_114, zl_120, zl_122, zl_126, zl_132, zl_180, zl_181, zl_186, zl_255, zl_900, zl_930, zl_1000, zl_1000000, nI_add, pk_mul, zs_sub, zs_lt, zs_le, zs_eq, zs_inb, zs_cl, zm_eq, zm_eq2, zm_lt, zm_le, mz_lt, mz_le, mm_eq, zs_bit, zs_or1, zs_div, zs_rem, ck_pos, if_pos, if_neg, true_or, or_true, true_and, and_true, false_or, or_false, false_and, and_false, not_true, not_false_iff, if_true, if_false, eq_self, Bool.false_eq_true, cl2_id, Bool.not_true, Bool.not_false]
        exact ansC_no 1 (Ak.rf m)
      · have hM1 := hM.ag (h1.agC.tr (gd_ak m1).agM)
        have e : (gdM m1).1 138 14 = nI 1 := hM1.1
        unfold fX11_mistake fX11_mistake_23 fX11_mistake_24 fX11_mistake_38
        simp (disch := omega) only [gd_e, e, h3', cl2_so, cl1_so, ck_tr, zl_0, zl_1, zl_2, zl_3, zl_4, zl_5, zl_6, zl_7, zl_8, zl_9, zl_10, zl_11, zl_12, zl_15, zl_16, zl_20, zl_24, zl_25, zl_30, zl_31, zl_32, zl_33, zl_44, zl_48, zl_50, zl_57, zl_59, zl_60, zl_61, zl_62, zl_63, zl_64, zl_68, zl_97, zl_99, zl_100, zl_104, zl_108, zl_114, zl_120, zl_122, zl_126, zl_132, zl_180, zl_181, zl_186, zl_255, zl_900, zl_930, zl_1000, zl_1000000, nI_add, pk_mul, zs_sub, zs_lt, zs_le, zs_eq, zs_inb, zs_cl, zm_eq, zm_eq2, zm_lt, zm_le, mz_lt, mz_le, mm_eq, zs_bit, zs_or1, zs_div, zs_rem, ck_pos, if_pos, if_neg, true_or, or_true, true_and, and_true, false_or, or_false, false_and, and_false, not_true, not_false_iff, if_true, if_false, eq_self, Bool.false_eq_true, cl2_id, Bool.not_true, Bool.not_false]
        exact ansM_no 1 (gd_ak m1)
    · obtain ⟨i, hi, rfl⟩ := nI_of h3
      obtain ⟨m', e, g1, g2, g3⟩ := (hC.kc hI).mistakes hK
      have hM2 : ∀ m1, Ak sC m m1 → ∃ m2, fX11_mistakeAt (nI i) (gdM m1) = some (mkR (some i) (zmv r s 0 (z_mo r + 1)), m2) ∧ Ak sN (gdM m1) m2 := fun m1 h1 => (hM.ag (h1.agC.tr (gd_ak m1).agM)).km.mistakes hK (X := some i) (fun i q => by cases q; omega)
      have hlen := zmv_len r s (z_mo r + 1) 0
      have hlen2 : 2 * r 5 * (z_mo r + 1) ≤ 2 * 6 * 28 := Nat.mul_le_mul (by omega) (by omega)
      have hmem := zmv_mem (s := s) h5 (z_mo r + 1) 0
      generalize zmv r s 0 (z_mo r + 1) = l at *
      by_cases hl : i < l.length
      · have hp : l[i]? = some l[i] := List.getElem?_eq_getElem hl
        have ep : l.getD i 0 = l[i] := by rw [List.getD_eq_getElem?_getD, hp]; rfl
        have ga := g3 i hl
        rw [ep] at ga
        have hx := hmem l[i] (by omega) (List.getElem_mem hl)
        refine ⟨nI l[i], 0, ?_, fun m1 h1 => ?_⟩
        · unfold fX10_mistake fX10_mistake_19
          simp (disch := omega) only [e0, e, ga, cl2_so, cl1_so, ck_tr, zl_0, zl_1, zl_2, zl_3, zl_4, zl_5, zl_6, zl_7, zl_8, zl_9, zl_10, zl_11, zl_12, zl_15, zl_16, zl_20, zl_24, zl_25, zl_30, zl_31, zl_32, zl_33, zl_44, zl_48, zl_50, zl_57, zl_59, zl_60, zl_61, zl_62, zl_63, zl_64, zl_68, zl_97, zl_99, zl_100, zl_104, zl_108, zl_114, zl_120, zl_122, zl_126, zl_132, zl_180, zl_181, zl_186, zl_255, zl_900, zl_930, zl_1000, zl_1000000, nI_add, pk_mul, zs_sub, zs_lt, zs_le, zs_eq, zs_inb, zs_cl, zm_eq, zm_eq2, zm_lt, zm_le, mz_lt, mz_le, mm_eq, zs_bit, zs_or1, zs_div, zs_rem, ck_pos, if_pos, if_neg, true_or, or_true, true_and, and_true, false_or, or_false, false_and, and_false, not_true, not_false_iff, if_true, if_false, eq_self, Bool.false_eq_true, cl2_id, Bool.not_true, Bool.not_false]
          exact ansC_ok _ g1
        · have hM1 := hM.ag (h1.agC.tr (gd_ak m1).agM)
          have e : (gdM m1).1 138 14 = nI 1 := hM1.1
          obtain ⟨m2, e2, f1⟩ := hM2 m1 h1
          have e3 : mkR (some i) l = nI l[i] := by unfold mkR; simp only [hp]
          rw [e3] at e2
          unfold fX11_mistake fX11_mistake_23 fX11_mistake_24 fX11_mistake_38
          simp (disch := omega) only [gd_e, e, e2, cl2_so, cl1_so, ck_tr, zl_0, zl_1, zl_2, zl_3, zl_4, zl_5, zl_6, zl_7, zl_8, zl_9, zl_10, zl_11, zl_12, zl_15, zl_16, zl_20, zl_24, zl_25, zl_30, zl_31, zl_32, zl_33, zl_44, zl_48, zl_50, zl_57, zl_59, zl_60, zl_61, zl_62, zl_63, zl_64, zl_68, zl_97, zl_99, zl_100, zl_104, zl_108, zl_114, zl_120, zl_122, zl_126, zl_132, zl_180, zl_181, zl_186, zl_255, zl_900, zl_930, zl_1000, zl_1000000, nI_add, pk_mul, zs_sub, zs_lt, zs_le, zs_eq, zs_inb, zs_cl, zm_eq, zm_eq2, zm_lt, zm_le, mz_lt, mz_le, mm_eq, zs_bit, zs_or1, zs_div, zs_rem, ck_pos, if_pos, if_neg, true_or, or_true, true_and, and_true, false_or, or_false, false_and, and_false, not_true, not_false_iff, if_true, if_false, eq_self, Bool.false_eq_true, cl2_id, Bool.not_true, Bool.not_false]
          exact ansN_ok _ f1
      · refine ⟨-nI 1, 1, ?_, fun m1 h1 => ?_⟩
        · unfold fX10_mistake fX10_mistake_19
          simp (disch := omega) only [e0, e, cl2_so, cl1_so, ck_tr, zl_0, zl_1, zl_2, zl_3, zl_4, zl_5, zl_6, zl_7, zl_8, zl_9, zl_10, zl_11, zl_12, zl_15, zl_16, zl_20, zl_24, zl_25, zl_30, zl_31, zl_32, zl_33, zl_44, zl_48, zl_50, zl_57, zl_59, zl_60, zl_61, zl_62, zl_63, zl_64, zl_68, zl_97, zl_99, zl_100, zl_104, zl_108, zl_114, zl_120, zl_122, zl_126, zl_132, zl_180, zl_181, zl_186, zl_255, zl_900, zl_930, zl_1000, zl_1000000, nI_add, pk_mul, zs_sub, zs_lt, zs_le, zs_eq, zs_inb, zs_cl, zm_eq, zm_eq2, zm_lt, zm_le, mz_lt, mz_le, mm_eq, zs_bit, zs_or1, zs_div, zs_rem, ck_pos, if_pos, if_neg, true_or, or_true, true_and, and_true, false_or, or_false, false_and, and_false, not_true, not_false_iff, if_true, if_false, eq_self, Bool.false_eq_true, cl2_id, Bool.not_true, Bool.not_false]
          exact ansC_no _ g1
        · have hM1 := hM.ag (h1.agC.tr (gd_ak m1).agM)
          have e : (gdM m1).1 138 14 = nI 1 := hM1.1
          obtain ⟨m2, e2, f1⟩ := hM2 m1 h1
          rw [mkR_no (fun i' q => by cases q; omega)] at e2
          have hb : ¬ nI 0 ≤ nI l.length - nI 1000000 := Int32.not_le.mpr (pk_sneg (by omega) (by omega))
          unfold fX11_mistake fX11_mistake_23 fX11_mistake_24 fX11_mistake_38
          simp (disch := omega) only [gd_e, e, e2, hb, cl2_so, cl1_so, ck_tr, zl_0, zl_1, zl_2, zl_3, zl_4, zl_5, zl_6, zl_7, zl_8, zl_9, zl_10, zl_11, zl_12, zl_15, zl_16, zl_20, zl_24, zl_25, zl_30, zl_31, zl_32, zl_33, zl_44, zl_48, zl_50, zl_57, zl_59, zl_60, zl_61, zl_62, zl_63, zl_64, zl_68, zl_97, zl_99, zl_100, zl_104, zl_108, zl_114, zl_120, zl_122, zl_126, zl_132, zl_180, zl_181, zl_186, zl_255, zl_900, zl_930, zl_1000, zl_1000000, nI_add, pk_mul, zs_sub, zs_lt, zs_le, zs_eq, zs_inb, zs_cl, zm_eq, zm_eq2, zm_lt, zm_le, mz_lt, mz_le, mm_eq, zs_bit, zs_or1, zs_div, zs_rem, ck_pos, if_pos, if_neg, true_or, or_true, true_and, and_true, false_or, or_false, false_and, and_false, not_true, not_false_iff, if_true, if_false, eq_self, Bool.false_eq_true, cl2_id, Bool.not_true, Bool.not_false]
          exact ansN_no _ f1
end C7
