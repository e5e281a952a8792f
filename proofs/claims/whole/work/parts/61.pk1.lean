/-! words in words, overlaps, both sides -/
def oeq (u w : List Nat) (n : Nat) : Bool := z_al (fun k => decide (u.getD (u.length - n + k) 0 = w.getD k 0)) 0 n
def ovF (u w : List Nat) : Nat → Nat
  | 0 => 0
  | n + 1 => if oeq u w (n + 1) then n + 1 else ovF u w n
def minL (u w : List Nat) : Nat := if w.length < u.length then w.length else u.length
def ovC (u w : List Nat) : Nat := ovF u w (minL u w - 1)
def ovR (u w : List Nat) : Nat := ovF u w (minL u w)
def lin (u w : List Nat) : Bool := z_ex (z_st u w) 0 (w.length + 1 - u.length)
theorem zs_dec {a : Nat} (h : 1 ≤ a) : nI a + -nI 1 = nI (a - 1) := by
  have := pk_m1 (a - 1)
  rw [show a - 1 + 1 = a by omega] at this
  exact this
theorem ovF_le (u w : List Nat) : ∀ n, ovF u w n ≤ n
  | 0 => Nat.le_refl _
  | n + 1 => by
    rw [ovF]
    split
    · omega
    · have := ovF_le u w n; omega
theorem minL_le (u w : List Nat) : minL u w ≤ u.length ∧ minL u w ≤ w.length := by
  unfold minL
  split <;> omega
theorem z_al_iff (g : Nat → Bool) : ∀ j k, z_al g k j = true ↔ ∀ i, k ≤ i → i < k + j → g i = true
  | 0, k => by
    rw [z_al]
    exact ⟨fun _ i h1 h2 => by omega, fun _ => rfl⟩
  | j + 1, k => by
    rw [z_al, Bool.and_eq_true, z_al_iff g j (k + 1)]
    constructor
    · rintro ⟨h1, h2⟩ i h3 h4
      by_cases hi : i = k
      · rw [hi]; exact h1
      · exact h2 i (by omega) (by omega)
    · intro h
      exact ⟨h k (by omega) (by omega), fun i h1 h2 => h i (by omega) (by omega)⟩
/-- an overlap of all of the one is that it lies in the other -/
theorem oeq_lin {u w : List Nat} (h : oeq u w (minL u w) = true) : lin u w = true ∨ lin w u = true := by
  unfold oeq at h
  rw [z_al_iff] at h
  unfold minL at h
  unfold lin
  rw [z_ex_iff, z_ex_iff]
  by_cases hl : w.length < u.length
  · rw [if_pos hl] at h
    right
    refine ⟨u.length - w.length, by omega, by omega, ?_⟩
    unfold z_st
    rw [Bool.and_eq_true, decide_eq_true_eq, z_al_iff]
    refine ⟨by omega, fun i h1 h2 => ?_⟩
    have := h i h1 h2
    rw [decide_eq_true_eq] at this ⊢
    exact this.symm
  · rw [if_neg hl] at h
    left
    refine ⟨0, by omega, by omega, ?_⟩
    unfold z_st
    rw [Bool.and_eq_true, decide_eq_true_eq, z_al_iff]
    refine ⟨by omega, fun i h1 h2 => ?_⟩
    have := h i h1 h2
    rw [decide_eq_true_eq, Nat.sub_self, Nat.zero_add] at this
    rw [decide_eq_true_eq, Nat.zero_add]
    exact this
theorem ov_eq {u w : List Nat} (hu : 1 ≤ u.length) (hw : 1 ≤ w.length) (h1 : lin u w = false) (h2 : lin w u = false) : ovR u w = ovC u w := by
  unfold ovR ovC
  have hm : 1 ≤ minL u w := by unfold minL; split <;> omega
  obtain ⟨n, hn⟩ : ∃ n, minL u w = n + 1 := ⟨minL u w - 1, by omega⟩
  have : oeq u w (minL u w) = false := by
    cases q : oeq u w (minL u w)
    · rfl
    · rcases oeq_lin q with z | z
      · rw [h1] at z; cases z
      · rw [h2] at z; cases z
  rw [hn] at this ⊢
  rw [ovF, this]
  rfl
section PK1
variable {m : Me} {H : Bool} {t : Nat} {r s : Nat → Nat} {x1 x2 x3 x4 : Int32}
theorem eb24 {a0 a1 : Nat} {u w : List Nat} (h0 : SY m a0 u) (h1 : SY m a1 w) (hu : LtW u) (hw : LtW w) {c : Nat} (hc : c ≤ u.length ∧ c ≤ w.length) : ∀ j k n, k + j = c → j < n → fX8_endsAsBegins_24 n a0 a1 (nI c) (nI k) m = some (nI (if z_al (fun k => decide (u.getD (u.length - c + k) 0 = w.getD k 0)) k j then 1 else 0), m) := by
  have hu8 := hu.1
  have hw8 := hw.1
  intro j
  induction j with
  | zero =>
    intro k n hk hn
    obtain ⟨n, rfl⟩ : ∃ n', n = n' + 1 := ⟨n - 1, by omega⟩
    rw [fX8_endsAsBegins_24, z_al]
    simp (disch := omega) only [cl2_so, cl1_so, ck_tr, zl_0, zl_1, zl_2, zl_3, zl_4, zl_5, zl_6, zl_7, zl_8, zl_9, zl_10, zl_11, zl_12, zl_15, zl_16, zl_20, zl_24, zl_25, zl_30, zl_31, zl_32, zl_33, zl_44, zl_48, zl_50, zl_57, zl_59, zl_60, zl_61, zl_62, zl_63, zl_64, zl_68, zl_97, zl_99, zl_100, zl_104, zl_108, zl_114, zl_120, zl_122, zl_126, zl_132, zl_180, zl_181, zl_186, zl_255, zl_900, zl_930, zl_1000, zl_1000000, nI_add, pk_mul, zs_sub, zs_lt, zs_le, zs_eq, zs_inb, zs_cl, zm_eq, zm_eq2, zm_lt, zm_le, mz_lt, mz_le, mm_eq, zs_bit, zs_or1, zs_div, zs_rem, ck_pos, if_pos, if_neg, true_or, or_true, true_and, and_true, false_or, or_false, false_and, and_false, not_true, not_false_iff, if_true, if_false, eq_self, Bool.false_eq_true, cl2_id, Bool.not_true, Bool.not_false]
  | succ j ih =>
    intro k n hk hn
    obtain ⟨n, rfl⟩ : ∃ n', n = n' + 1 := ⟨n - 1, by omega⟩
    have b1 := hu.2 (u.length - c + k) (by omega)
    have b2 := hw.2 k (by omega)
    have e1 := h0.2 (u.length - c + k) (by omega)
    have e2 := h1.2 k (by omega)
    rw [fX8_endsAsBegins_24, z_al]
    by_cases hg : u.getD (u.length - c + k) 0 = w.getD k 0
    · rw [decide_eq_true hg, Bool.true_and]
      simp (disch := omega) only [h0.1, e1, e2, hg, cl2_so, cl1_so, ck_tr, zl_0, zl_1, zl_2, zl_3, zl_4, zl_5, zl_6, zl_7, zl_8, zl_9, zl_10, zl_11, zl_12, zl_15, zl_16, zl_20, zl_24, zl_25, zl_30, zl_31, zl_32, zl_33, zl_44, zl_48, zl_50, zl_57, zl_59, zl_60, zl_61, zl_62, zl_63, zl_64, zl_68, zl_97, zl_99, zl_100, zl_104, zl_108, zl_114, zl_120, zl_122, zl_126, zl_132, zl_180, zl_181, zl_186, zl_255, zl_900, zl_930, zl_1000, zl_1000000, nI_add, pk_mul, zs_sub, zs_lt, zs_le, zs_eq, zs_inb, zs_cl, zm_eq, zm_eq2, zm_lt, zm_le, mz_lt, mz_le, mm_eq, zs_bit, zs_or1, zs_div, zs_rem, ck_pos, if_pos, if_neg, true_or, or_true, true_and, and_true, false_or, or_false, false_and, and_false, not_true, not_false_iff, if_true, if_false, eq_self, Bool.false_eq_true, cl2_id, Bool.not_true, Bool.not_false]
      exact ih (k + 1) n (by omega) (by omega)
    · rw [decide_eq_false hg, Bool.false_and]
      simp (disch := omega) only [h0.1, e1, e2, hg, cl2_so, cl1_so, ck_tr, zl_0, zl_1, zl_2, zl_3, zl_4, zl_5, zl_6, zl_7, zl_8, zl_9, zl_10, zl_11, zl_12, zl_15, zl_16, zl_20, zl_24, zl_25, zl_30, zl_31, zl_32, zl_33, zl_44, zl_48, zl_50, zl_57, zl_59, zl_60, zl_61, zl_62, zl_63, zl_64, zl_68, zl_97, zl_99, zl_100, zl_104, zl_108, zl_114, zl_120, zl_122, zl_126, zl_132, zl_180, zl_181, zl_186, zl_255, zl_900, zl_930, zl_1000, zl_1000000, nI_add, pk_mul, zs_sub, zs_lt, zs_le, zs_eq, zs_inb, zs_cl, zm_eq, zm_eq2, zm_lt, zm_le, mz_lt, mz_le, mm_eq, zs_bit, zs_or1, zs_div, zs_rem, ck_pos, if_pos, if_neg, true_or, or_true, true_and, and_true, false_or, or_false, false_and, and_false, not_true, not_false_iff, if_true, if_false, eq_self, Bool.false_eq_true, cl2_id, Bool.not_true, Bool.not_false]
theorem fX8_endsAsBegins_e {a0 a1 : Nat} {u w : List Nat} (h0 : SY m a0 u) (h1 : SY m a1 w) (hu : LtW u) (hw : LtW w) {c : Nat} (hc : c ≤ u.length ∧ c ≤ w.length) : fX8_endsAsBegins a0 a1 (nI c) m = some (nI (if oeq u w c then 1 else 0), m) := by
  have hu8 := hu.1
  have hw8 := hw.1
  unfold fX8_endsAsBegins
  simp (disch := omega) only [h0.1, h1.1, cl2_so, cl1_so, ck_tr, zl_0, zl_1, zl_2, zl_3, zl_4, zl_5, zl_6, zl_7, zl_8, zl_9, zl_10, zl_11, zl_12, zl_15, zl_16, zl_20, zl_24, zl_25, zl_30, zl_31, zl_32, zl_33, zl_44, zl_48, zl_50, zl_57, zl_59, zl_60, zl_61, zl_62, zl_63, zl_64, zl_68, zl_97, zl_99, zl_100, zl_104, zl_108, zl_114, zl_120, zl_122, zl_126, zl_132, zl_180, zl_181, zl_186, zl_255, zl_900, zl_930, zl_1000, zl_1000000, nI_add, pk_mul, zs_sub, zs_lt, zs_le, zs_eq, zs_inb, zs_cl, zm_eq, zm_eq2, zm_lt, zm_le, mz_lt, mz_le, mm_eq, zs_bit, zs_or1, zs_div, zs_rem, ck_pos, if_pos, if_neg, true_or, or_true, true_and, and_true, false_or, or_false, false_and, and_false, not_true, not_false_iff, if_true, if_false, eq_self, Bool.false_eq_true, cl2_id, Bool.not_true, Bool.not_false]
  exact eb24 h0 h1 hu hw hc c 0 FU (by omega) (FU_pos (by omega))
theorem ov14 {a0 a1 : Nat} {u w : List Nat} (h0 : SY m a0 u) (h1 : SY m a1 w) (hu : LtW u) (hw : LtW w) : ∀ c n, c ≤ u.length ∧ c ≤ w.length → c < n → fX4_overlapOf_14 n a0 a1 (nI c) m = some (nI (ovF u w c), m) := by
  have hu8 := hu.1
  have hw8 := hw.1
  intro c
  induction c with
  | zero =>
    intro n hc hn
    obtain ⟨n, rfl⟩ : ∃ n', n = n' + 1 := ⟨n - 1, by omega⟩
    rw [fX4_overlapOf_14, ovF]
    simp (disch := omega) only [cl2_so, cl1_so, ck_tr, zl_0, zl_1, zl_2, zl_3, zl_4, zl_5, zl_6, zl_7, zl_8, zl_9, zl_10, zl_11, zl_12, zl_15, zl_16, zl_20, zl_24, zl_25, zl_30, zl_31, zl_32, zl_33, zl_44, zl_48, zl_50, zl_57, zl_59, zl_60, zl_61, zl_62, zl_63, zl_64, zl_68, zl_97, zl_99, zl_100, zl_104, zl_108, zl_114, zl_120, zl_122, zl_126, zl_132, zl_180, zl_181, zl_186, zl_255, zl_900, zl_930, zl_1000, zl_1000000, nI_add, pk_mul, zs_sub, zs_lt, zs_le, zs_eq, zs_inb, zs_cl, zm_eq, zm_eq2, zm_lt, zm_le, mz_lt, mz_le, mm_eq, zs_bit, zs_or1, zs_div, zs_rem, ck_pos, if_pos, if_neg, true_or, or_true, true_and, and_true, false_or, or_false, false_and, and_false, not_true, not_false_iff, if_true, if_false, eq_self, Bool.false_eq_true, cl2_id, Bool.not_true, Bool.not_false]
  | succ c ih =>
    intro n hc hn
    obtain ⟨n, rfl⟩ : ∃ n', n = n' + 1 := ⟨n - 1, by omega⟩
    have e := fX8_endsAsBegins_e h0 h1 hu hw hc
    have ih' := ih n (by omega) (by omega)
    rw [fX4_overlapOf_14, ovF]
    have ed := zs_dec (a := c + 1) (by omega)
    rw [Nat.add_sub_cancel] at ed
    cases hq : oeq u w (c + 1)
    · simp (disch := omega) only [e, hq, ed, cl2_so, cl1_so, ck_tr, zl_0, zl_1, zl_2, zl_3, zl_4, zl_5, zl_6, zl_7, zl_8, zl_9, zl_10, zl_11, zl_12, zl_15, zl_16, zl_20, zl_24, zl_25, zl_30, zl_31, zl_32, zl_33, zl_44, zl_48, zl_50, zl_57, zl_59, zl_60, zl_61, zl_62, zl_63, zl_64, zl_68, zl_97, zl_99, zl_100, zl_104, zl_108, zl_114, zl_120, zl_122, zl_126, zl_132, zl_180, zl_181, zl_186, zl_255, zl_900, zl_930, zl_1000, zl_1000000, nI_add, pk_mul, zs_sub, zs_lt, zs_le, zs_eq, zs_inb, zs_cl, zm_eq, zm_eq2, zm_lt, zm_le, mz_lt, mz_le, mm_eq, zs_bit, zs_or1, zs_div, zs_rem, ck_pos, if_pos, if_neg, true_or, or_true, true_and, and_true, false_or, or_false, false_and, and_false, not_true, not_false_iff, if_true, if_false, eq_self, Bool.false_eq_true, cl2_id, Bool.not_true, Bool.not_false]
      exact ih'
    · simp (disch := omega) only [e, hq, cl2_so, cl1_so, ck_tr, zl_0, zl_1, zl_2, zl_3, zl_4, zl_5, zl_6, zl_7, zl_8, zl_9, zl_10, zl_11, zl_12, zl_15, zl_16, zl_20, zl_24, zl_25, zl_30, zl_31, zl_32, zl_33, zl_44, zl_48, zl_50, zl_57, zl_59, zl_60, zl_61, zl_62, zl_63, zl_64, zl_68, zl_97, zl_99, zl_100, zl_104, zl_108, zl_114, zl_120, zl_122, zl_126, zl_132, zl_180, zl_181, zl_186, zl_255, zl_900, zl_930, zl_1000, zl_1000000, nI_add, pk_mul, zs_sub, zs_lt, zs_le, zs_eq, zs_inb, zs_cl, zm_eq, zm_eq2, zm_lt, zm_le, mz_lt, mz_le, mm_eq, zs_bit, zs_or1, zs_div, zs_rem, ck_pos, if_pos, if_neg, true_or, or_true, true_and, and_true, false_or, or_false, false_and, and_false, not_true, not_false_iff, if_true, if_false, eq_self, Bool.false_eq_true, cl2_id, Bool.not_true, Bool.not_false]
theorem fX4_overlapOf_e {a0 a1 : Nat} {u w : List Nat} (h0 : SY m a0 u) (h1 : SY m a1 w) (hu : SYok u) (hw : SYok w) : fX4_overlapOf a0 a1 m = some (nI (ovC u w), m) := by
  have hu8 := hu.2.1
  have hw8 := hw.2.1
  have hu1 := hu.1
  have hw1 := hw.1
  have hm := minL_le u w
  have e := ov14 h0 h1 hu.lt hw.lt (minL u w - 1) FU (by omega) (FU_pos (by omega))
  unfold fX4_overlapOf
  unfold ovC
  unfold minL at e ⊢
  by_cases hl : w.length < u.length
  · rw [if_pos hl] at e ⊢
    simp (disch := omega) only [h0.1, h1.1, cl2_so, cl1_so, ck_tr, zl_0, zl_1, zl_2, zl_3, zl_4, zl_5, zl_6, zl_7, zl_8, zl_9, zl_10, zl_11, zl_12, zl_15, zl_16, zl_20, zl_24, zl_25, zl_30, zl_31, zl_32, zl_33, zl_44, zl_48, zl_50, zl_57, zl_59, zl_60, zl_61, zl_62, zl_63, zl_64, zl_68, zl_97, zl_99, zl_100, zl_104, zl_108, zl_114, zl_120, zl_122, zl_126, zl_132, zl_180, zl_181, zl_186, zl_255, zl_900, zl_930, zl_1000, zl_1000000, nI_add, pk_mul, zs_sub, zs_lt, zs_le, zs_eq, zs_inb, zs_cl, zm_eq, zm_eq2, zm_lt, zm_le, mz_lt, mz_le, mm_eq, zs_bit, zs_or1, zs_div, zs_rem, ck_pos, if_pos, if_neg, true_or, or_true, true_and, and_true, false_or, or_false, false_and, and_false, not_true, not_false_iff, if_true, if_false, eq_self, Bool.false_eq_true, cl2_id, Bool.not_true, Bool.not_false]
    exact e
  · rw [if_neg hl] at e ⊢
    simp (disch := omega) only [h0.1, h1.1, cl2_so, cl1_so, ck_tr, zl_0, zl_1, zl_2, zl_3, zl_4, zl_5, zl_6, zl_7, zl_8, zl_9, zl_10, zl_11, zl_12, zl_15, zl_16, zl_20, zl_24, zl_25, zl_30, zl_31, zl_32, zl_33, zl_44, zl_48, zl_50, zl_57, zl_59, zl_60, zl_61, zl_62, zl_63, zl_64, zl_68, zl_97, zl_99, zl_100, zl_104, zl_108, zl_114, zl_120, zl_122, zl_126, zl_132, zl_180, zl_181, zl_186, zl_255, zl_900, zl_930, zl_1000, zl_1000000, nI_add, pk_mul, zs_sub, zs_lt, zs_le, zs_eq, zs_inb, zs_cl, zm_eq, zm_eq2, zm_lt, zm_le, mz_lt, mz_le, mm_eq, zs_bit, zs_or1, zs_div, zs_rem, ck_pos, if_pos, if_neg, true_or, or_true, true_and, and_true, false_or, or_false, false_and, and_false, not_true, not_false_iff, if_true, if_false, eq_self, Bool.false_eq_true, cl2_id, Bool.not_true, Bool.not_false]
    exact e
theorem li2 {a0 a1 : Nat} {u w : List Nat} (h0 : SY m a0 u) (h1 : SY m a1 w) (hu : LtW u) (hw : LtW w) : ∀ j k n, k + j = w.length + 1 - u.length → j < n → fX8_liesIn_2 n a0 a1 (nI k) m = some (nI (if z_ex (z_st u w) k j then 1 else 0), m) := by
  have hu8 := hu.1
  have hw8 := hw.1
  intro j
  induction j with
  | zero =>
    intro k n hk hn
    obtain ⟨n, rfl⟩ : ∃ n', n = n' + 1 := ⟨n - 1, by omega⟩
    rw [fX8_liesIn_2, z_ex]
    simp (disch := omega) only [h0.1, h1.1, cl2_so, cl1_so, ck_tr, zl_0, zl_1, zl_2, zl_3, zl_4, zl_5, zl_6, zl_7, zl_8, zl_9, zl_10, zl_11, zl_12, zl_15, zl_16, zl_20, zl_24, zl_25, zl_30, zl_31, zl_32, zl_33, zl_44, zl_48, zl_50, zl_57, zl_59, zl_60, zl_61, zl_62, zl_63, zl_64, zl_68, zl_97, zl_99, zl_100, zl_104, zl_108, zl_114, zl_120, zl_122, zl_126, zl_132, zl_180, zl_181, zl_186, zl_255, zl_900, zl_930, zl_1000, zl_1000000, nI_add, pk_mul, zs_sub, zs_lt, zs_le, zs_eq, zs_inb, zs_cl, zm_eq, zm_eq2, zm_lt, zm_le, mz_lt, mz_le, mm_eq, zs_bit, zs_or1, zs_div, zs_rem, ck_pos, if_pos, if_neg, true_or, or_true, true_and, and_true, false_or, or_false, false_and, and_false, not_true, not_false_iff, if_true, if_false, eq_self, Bool.false_eq_true, cl2_id, Bool.not_true, Bool.not_false]
  | succ j ih =>
    intro k n hk hn
    obtain ⟨n, rfl⟩ : ∃ n', n = n' + 1 := ⟨n - 1, by omega⟩
    have e := fX8_standsIn_e (p := k) h0 h1 hu hw (by omega)
    have ih' := ih (k + 1) n (by omega) (by omega)
    rw [fX8_liesIn_2, z_ex]
    cases hq : z_st u w k
    · simp (disch := omega) only [h0.1, h1.1, e, hq, Bool.false_or, cl2_so, cl1_so, ck_tr, zl_0, zl_1, zl_2, zl_3, zl_4, zl_5, zl_6, zl_7, zl_8, zl_9, zl_10, zl_11, zl_12, zl_15, zl_16, zl_20, zl_24, zl_25, zl_30, zl_31, zl_32, zl_33, zl_44, zl_48, zl_50, zl_57, zl_59, zl_60, zl_61, zl_62, zl_63, zl_64, zl_68, zl_97, zl_99, zl_100, zl_104, zl_108, zl_114, zl_120, zl_122, zl_126, zl_132, zl_180, zl_181, zl_186, zl_255, zl_900, zl_930, zl_1000, zl_1000000, nI_add, pk_mul, zs_sub, zs_lt, zs_le, zs_eq, zs_inb, zs_cl, zm_eq, zm_eq2, zm_lt, zm_le, mz_lt, mz_le, mm_eq, zs_bit, zs_or1, zs_div, zs_rem, ck_pos, if_pos, if_neg, true_or, or_true, true_and, and_true, false_or, or_false, false_and, and_false, not_true, not_false_iff, if_true, if_false, eq_self, Bool.false_eq_true, cl2_id, Bool.not_true, Bool.not_false]
      exact ih'
    · simp (disch := omega) only [h0.1, h1.1, e, hq, Bool.true_or, cl2_so, cl1_so, ck_tr, zl_0, zl_1, zl_2, zl_3, zl_4, zl_5, zl_6, zl_7, zl_8, zl_9, zl_10, zl_11, zl_12, zl_15, zl_16, zl_20, zl_24, zl_25, zl_30, zl_31, zl_32, zl_33, zl_44, zl_48, zl_50, zl_57, zl_59, zl_60, zl_61, zl_62, zl_63, zl_64, zl_68, zl_97, zl_99, zl_100, zl_104, zl_108, zl_114, zl_120, zl_122, zl_126, zl_132, zl_180, zl_181, zl_186, zl_255, zl_900, zl_930, zl_1000, zl_1000000, nI_add, pk_mul, zs_sub, zs_lt, zs_le, zs_eq, zs_inb, zs_cl, zm_eq, zm_eq2, zm_lt, zm_le, mz_lt, mz_le, mm_eq, zs_bit, zs_or1, zs_div, zs_rem, ck_pos, if_pos, if_neg, true_or, or_true, true_and, and_true, false_or, or_false, false_and, and_false, not_true, not_false_iff, if_true, if_false, eq_self, Bool.false_eq_true, cl2_id, Bool.not_true, Bool.not_false]
theorem fX8_liesIn_e {a0 a1 : Nat} {u w : List Nat} (h0 : SY m a0 u) (h1 : SY m a1 w) (hu : LtW u) (hw : LtW w) : fX8_liesIn a0 a1 m = some (nI (if lin u w then 1 else 0), m) := by
  have hw8 := hw.1
  exact li2 h0 h1 hu hw (w.length + 1 - u.length) 0 FU (by omega) (FU_pos (by omega))
/-! the reference -/
theorem KM.letterOf (h : KM m r s) (hO : KO r s) {w k : Nat} (hw : w < r 5) (hk : k < r (10 + w)) : fX11_letterOf (nI w) (nI k) m = some (nI ((z_word r w).getD k 0), m) := by
  have h5 := hO.1.2.2.2.1
  obtain ⟨-, w8, -⟩ := hO.1.2.2.2.2.2.2.2.1 w hw
  have e : (z_word r w).getD k 0 = r (16 + 8 * w + k) := z_w_at hk
  unfold fX11_letterOf
  rw [e]
  simp (disch := omega) only [h.2.1 (16 + 8 * w + k) (by omega), cl2_so, cl1_so, ck_tr, zl_0, zl_1, zl_2, zl_3, zl_4, zl_5, zl_6, zl_7, zl_8, zl_9, zl_10, zl_11, zl_12, zl_15, zl_16, zl_20, zl_24, zl_25, zl_30, zl_31, zl_32, zl_33, zl_44, zl_48, zl_50, zl_57, zl_59, zl_60, zl_61, zl_62, zl_63, zl_64, zl_68, zl_97, zl_99, zl_100, zl_104, zl_108, zl_114, zl_120, zl_122, zl_126, zl_132, zl_180, zl_181, zl_186, zl_255, zl_900, zl_930, zl_1000, zl_1000000, nI_add, pk_mul, zs_sub, zs_lt, zs_le, zs_eq, zs_inb, zs_cl, zm_eq, zm_eq2, zm_lt, zm_le, mz_lt, mz_le, mm_eq, zs_bit, zs_or1, zs_div, zs_rem, ck_pos, if_pos, if_neg, true_or, or_true, true_and, and_true, false_or, or_false, false_and, and_false, not_true, not_false_iff, if_true, if_false, eq_self, Bool.false_eq_true, cl2_id, Bool.not_true, Bool.not_false]
theorem wl_lt (hO : KO r s) {w : Nat} (hw : w < r 5) : r (10 + w) ≤ 8 ∧ 1 ≤ r (10 + w) ∧ r 5 ≤ 6 ∧ ∀ k, k < r (10 + w) → (z_word r w).getD k 0 < 1000 := by
  obtain ⟨a, b, -⟩ := hO.1.2.2.2.2.2.2.2.1 w hw
  have := (word_ok hO.1 hw).2.2
  rw [z_word_len] at this
  exact ⟨b, a, hO.1.2.2.2.1, this⟩
theorem ii31 (h : KM m r s) (hO : KO r s) {w v p : Nat} (hw : w < r 5) (hv : v < r 5) (hp : p + r (10 + w) ≤ r (10 + v)) {k2 : Int32 → Int32 → Int32 → Me → Option (Int32 × Me)} : ∀ j k n, k + j = r (10 + w) → j < n → fX11_isIn_31 n k2 (nI w) (nI v) (nI p) (nI 1) (nI k) m = if z_al (fun k => decide ((z_word r w).getD k 0 = (z_word r v).getD (p + k) 0)) k j then some (nI 1, m) else k2 (nI w) (nI v) (nI (p + 1)) m := by
  obtain ⟨w8, w1, h5, wb⟩ := wl_lt hO hw
  obtain ⟨v8, v1, -, vb⟩ := wl_lt hO hv
  have e1 := h.2.1 (10 + w) (by omega)
  intro j
  induction j with
  | zero =>
    intro k n hk hn
    obtain ⟨n, rfl⟩ : ∃ n', n = n' + 1 := ⟨n - 1, by omega⟩
    rw [fX11_isIn_31, z_al]
    unfold fX11_isIn_82
    simp (disch := omega) only [e1, cl2_so, cl1_so, ck_tr, zl_0, zl_1, zl_2, zl_3, zl_4, zl_5, zl_6, zl_7, zl_8, zl_9, zl_10, zl_11, zl_12, zl_15, zl_16, zl_20, zl_24, zl_25, zl_30, zl_31, zl_32, zl_33, zl_44, zl_48, zl_50, zl_57, zl_59, zl_60, zl_61, zl_62, zl_63, zl_64, zl_68, zl_97, zl_99, zl_100, zl_104, zl_108, zl_114, zl_120, zl_122, zl_126, zl_132, zl_180, zl_181, zl_186, zl_255, zl_900, zl_930, zl_1000, zl_1000000, nI_add, pk_mul, zs_sub, zs_lt, zs_le, zs_eq, zs_inb, zs_cl, zm_eq, zm_eq2, zm_lt, zm_le, mz_lt, mz_le, mm_eq, zs_bit, zs_or1, zs_div, zs_rem, ck_pos, if_pos, if_neg, true_or, or_true, true_and, and_true, false_or, or_false, false_and, and_false, not_true, not_false_iff, if_true, if_false, eq_self, Bool.false_eq_true, cl2_id, Bool.not_true, Bool.not_false]
  | succ j ih =>
    intro k n hk hn
    obtain ⟨n, rfl⟩ : ∃ n', n = n' + 1 := ⟨n - 1, by omega⟩
    have e2 := h.letterOf hO hw (k := k) (by omega)
    have e3 := h.letterOf hO hv (k := p + k) (by omega)
    have b2 := wb k (by omega)
    have b3 := vb (p + k) (by omega)
    have ih' := ih (k + 1) n (by omega) (by omega)
    rw [fX11_isIn_31, z_al]
    unfold fX11_isIn_74
    by_cases hg : (z_word r w).getD k 0 = (z_word r v).getD (p + k) 0
    · rw [decide_eq_true hg, Bool.true_and]
      simp (disch := omega) only [e1, e2, e3, hg, cl2_so, cl1_so, ck_tr, zl_0, zl_1, zl_2, zl_3, zl_4, zl_5, zl_6, zl_7, zl_8, zl_9, zl_10, zl_11, zl_12, zl_15, zl_16, zl_20, zl_24, zl_25, zl_30, zl_31, zl_32, zl_33, zl_44, zl_48, zl_50, zl_57, zl_59, zl_60, zl_61, zl_62, zl_63, zl_64, zl_68, zl_97, zl_99, zl_100, zl_104, zl_108, zl_114, zl_120, zl_122, zl_126, zl_132, zl_180, zl_181, zl_186, zl_255, zl_900, zl_930, zl_1000, zl_1000000, nI_add, pk_mul, zs_sub, zs_lt, zs_le, zs_eq, zs_inb, zs_cl, zm_eq, zm_eq2, zm_lt, zm_le, mz_lt, mz_le, mm_eq, zs_bit, zs_or1, zs_div, zs_rem, ck_pos, if_pos, if_neg, true_or, or_true, true_and, and_true, false_or, or_false, false_and, and_false, not_true, not_false_iff, if_true, if_false, eq_self, Bool.false_eq_true, cl2_id, Bool.not_true, Bool.not_false]
      exact ih'
    · rw [decide_eq_false hg, Bool.false_and]
      obtain ⟨n, rfl⟩ : ∃ n', n = n' + 1 := ⟨n - 1, by omega⟩
      simp (disch := omega) only [e1, e2, e3, hg, cl2_so, cl1_so, ck_tr, zl_0, zl_1, zl_2, zl_3, zl_4, zl_5, zl_6, zl_7, zl_8, zl_9, zl_10, zl_11, zl_12, zl_15, zl_16, zl_20, zl_24, zl_25, zl_30, zl_31, zl_32, zl_33, zl_44, zl_48, zl_50, zl_57, zl_59, zl_60, zl_61, zl_62, zl_63, zl_64, zl_68, zl_97, zl_99, zl_100, zl_104, zl_108, zl_114, zl_120, zl_122, zl_126, zl_132, zl_180, zl_181, zl_186, zl_255, zl_900, zl_930, zl_1000, zl_1000000, nI_add, pk_mul, zs_sub, zs_lt, zs_le, zs_eq, zs_inb, zs_cl, zm_eq, zm_eq2, zm_lt, zm_le, mz_lt, mz_le, mm_eq, zs_bit, zs_or1, zs_div, zs_rem, ck_pos, if_pos, if_neg, true_or, or_true, true_and, and_true, false_or, or_false, false_and, and_false, not_true, not_false_iff, if_true, if_false, eq_self, Bool.false_eq_true, cl2_id, Bool.not_true, Bool.not_false]
      rw [fX11_isIn_31]
      unfold fX11_isIn_82
      simp (disch := omega) only [e1, ite_self, cl2_so, cl1_so, ck_tr, zl_0, zl_1, zl_2, zl_3, zl_4, zl_5, zl_6, zl_7, zl_8, zl_9, zl_10, zl_11, zl_12, zl_15, zl_16, zl_20, zl_24, zl_25, zl_30, zl_31, zl_32, zl_33, zl_44, zl_48, zl_50, zl_57, zl_59, zl_60, zl_61, zl_62, zl_63, zl_64, zl_68, zl_97, zl_99, zl_100, zl_104, zl_108, zl_114, zl_120, zl_122, zl_126, zl_132, zl_180, zl_181, zl_186, zl_255, zl_900, zl_930, zl_1000, zl_1000000, nI_add, pk_mul, zs_sub, zs_lt, zs_le, zs_eq, zs_inb, zs_cl, zm_eq, zm_eq2, zm_lt, zm_le, mz_lt, mz_le, mm_eq, zs_bit, zs_or1, zs_div, zs_rem, ck_pos, if_pos, if_neg, true_or, or_true, true_and, and_true, false_or, or_false, false_and, and_false, not_true, not_false_iff, if_true, if_false, eq_self, Bool.false_eq_true, cl2_id, Bool.not_true, Bool.not_false]
theorem ii2 (h : KM m r s) (hO : KO r s) {w v : Nat} (hw : w < r 5) (hv : v < r 5) : ∀ j k n, k + j = r (10 + v) + 1 - r (10 + w) → j < n → fX11_isIn_2 n (nI w) (nI v) (nI k) m = some (nI (if z_ex (z_st (z_word r w) (z_word r v)) k j then 1 else 0), m) := by
  obtain ⟨w8, w1, h5, wb⟩ := wl_lt hO hw
  obtain ⟨v8, v1, -, vb⟩ := wl_lt hO hv
  have e1 := h.2.1 (10 + w) (by omega)
  have e2 := h.2.1 (10 + v) (by omega)
  intro j
  induction j with
  | zero =>
    intro k n hk hn
    obtain ⟨n, rfl⟩ : ∃ n', n = n' + 1 := ⟨n - 1, by omega⟩
    rw [fX11_isIn_2, z_ex]
    simp (disch := omega) only [e1, e2, cl2_so, cl1_so, ck_tr, zl_0, zl_1, zl_2, zl_3, zl_4, zl_5, zl_6, zl_7, zl_8, zl_9, zl_10, zl_11, zl_12, zl_15, zl_16, zl_20, zl_24, zl_25, zl_30, zl_31, zl_32, zl_33, zl_44, zl_48, zl_50, zl_57, zl_59, zl_60, zl_61, zl_62, zl_63, zl_64, zl_68, zl_97, zl_99, zl_100, zl_104, zl_108, zl_114, zl_120, zl_122, zl_126, zl_132, zl_180, zl_181, zl_186, zl_255, zl_900, zl_930, zl_1000, zl_1000000, nI_add, pk_mul, zs_sub, zs_lt, zs_le, zs_eq, zs_inb, zs_cl, zm_eq, zm_eq2, zm_lt, zm_le, mz_lt, mz_le, mm_eq, zs_bit, zs_or1, zs_div, zs_rem, ck_pos, if_pos, if_neg, true_or, or_true, true_and, and_true, false_or, or_false, false_and, and_false, not_true, not_false_iff, if_true, if_false, eq_self, Bool.false_eq_true, cl2_id, Bool.not_true, Bool.not_false]
  | succ j ih =>
    intro k n hk hn
    obtain ⟨n, rfl⟩ : ∃ n', n = n' + 1 := ⟨n - 1, by omega⟩
    have e3 := ii31 h hO hw hv (p := k) (by omega) (k2 := fX11_isIn_2 n) (r (10 + w)) 0 FU (by omega) (FU_pos (by omega))
    have ih' := ih (k + 1) n (by omega) (by omega)
    have ez : z_st (z_word r w) (z_word r v) k = z_al (fun i => decide ((z_word r w).getD i 0 = (z_word r v).getD (k + i) 0)) 0 (r (10 + w)) := by
      unfold z_st
      rw [z_word_len, z_word_len, decide_eq_true (by omega), Bool.true_and]
    rw [fX11_isIn_2, z_ex, ez]
    cases hq : z_al (fun i => decide ((z_word r w).getD i 0 = (z_word r v).getD (k + i) 0)) 0 (r (10 + w))
    · rw [hq] at e3
      simp (disch := omega) only [e1, e2, e3, Bool.false_or, cl2_so, cl1_so, ck_tr, zl_0, zl_1, zl_2, zl_3, zl_4, zl_5, zl_6, zl_7, zl_8, zl_9, zl_10, zl_11, zl_12, zl_15, zl_16, zl_20, zl_24, zl_25, zl_30, zl_31, zl_32, zl_33, zl_44, zl_48, zl_50, zl_57, zl_59, zl_60, zl_61, zl_62, zl_63, zl_64, zl_68, zl_97, zl_99, zl_100, zl_104, zl_108, zl_114, zl_120, zl_122, zl_126, zl_132, zl_180, zl_181, zl_186, zl_255, zl_900, zl_930, zl_1000, zl_1000000, nI_add, pk_mul, zs_sub, zs_lt, zs_le, zs_eq, zs_inb, zs_cl, zm_eq, zm_eq2, zm_lt, zm_le, mz_lt, mz_le, mm_eq, zs_bit, zs_or1, zs_div, zs_rem, ck_pos, if_pos, if_neg, true_or, or_true, true_and, and_true, false_or, or_false, false_and, and_false, not_true, not_false_iff, if_true, if_false, eq_self, Bool.false_eq_true, cl2_id, Bool.not_true, Bool.not_false]
      exact ih'
    · rw [hq] at e3
      simp (disch := omega) only [e1, e2, e3, Bool.true_or, cl2_so, cl1_so, ck_tr, zl_0, zl_1, zl_2, zl_3, zl_4, zl_5, zl_6, zl_7, zl_8, zl_9, zl_10, zl_11, zl_12, zl_15, zl_16, zl_20, zl_24, zl_25, zl_30, zl_31, zl_32, zl_33, zl_44, zl_48, zl_50, zl_57, zl_59, zl_60, zl_61, zl_62, zl_63, zl_64, zl_68, zl_97, zl_99, zl_100, zl_104, zl_108, zl_114, zl_120, zl_122, zl_126, zl_132, zl_180, zl_181, zl_186, zl_255, zl_900, zl_930, zl_1000, zl_1000000, nI_add, pk_mul, zs_sub, zs_lt, zs_le, zs_eq, zs_inb, zs_cl, zm_eq, zm_eq2, zm_lt, zm_le, mz_lt, mz_le, mm_eq, zs_bit, zs_or1, zs_div, zs_rem, ck_pos, if_pos, if_neg, true_or, or_true, true_and, and_true, false_or, or_false, false_and, and_false, not_true, not_false_iff, if_true, if_false, eq_self, Bool.false_eq_true, cl2_id, Bool.not_true, Bool.not_false]
theorem KM.isIn (h : KM m r s) (hO : KO r s) {w v : Nat} (hw : w < r 5) (hv : v < r 5) : fX11_isIn (nI w) (nI v) m = some (nI (if lin (z_word r w) (z_word r v) then 1 else 0), m) := by
  obtain ⟨v8, v1, -, vb⟩ := wl_lt hO hv
  have e := ii2 h hO hw hv (r (10 + v) + 1 - r (10 + w)) 0 FU (by omega) (FU_pos (by omega))
  unfold lin
  rw [z_word_len, z_word_len]
  exact e
theorem oo57 (h : KM m r s) (hO : KO r s) {w v c : Nat} (hw : w < r 5) (hv : v < r 5) (hc : c ≤ r (10 + w) ∧ c ≤ r (10 + v)) {k46 : Int32 → Int32 → Int32 → Me → Option (Int32 × Me)} : ∀ j k n, k + j = c → j < n → fX11_overlap_57 n k46 (nI w) (nI v) (nI c) (nI 1) (nI k) m = if z_al (fun k => decide ((z_word r w).getD ((z_word r w).length - c + k) 0 = (z_word r v).getD k 0)) k j then some (nI c, m) else k46 (nI w) (nI v) (nI c + -nI 1) m := by
  obtain ⟨w8, w1, h5, wb⟩ := wl_lt hO hw
  obtain ⟨v8, v1, -, vb⟩ := wl_lt hO hv
  have e1 := h.2.1 (10 + w) (by omega)
  rw [z_word_len]
  intro j
  induction j with
  | zero =>
    intro k n hk hn
    obtain ⟨n, rfl⟩ : ∃ n', n = n' + 1 := ⟨n - 1, by omega⟩
    rw [fX11_overlap_57, z_al]
    unfold fX11_overlap_112
    simp (disch := omega) only [cl2_so, cl1_so, ck_tr, zl_0, zl_1, zl_2, zl_3, zl_4, zl_5, zl_6, zl_7, zl_8, zl_9, zl_10, zl_11, zl_12, zl_15, zl_16, zl_20, zl_24, zl_25, zl_30, zl_31, zl_32, zl_33, zl_44, zl_48, zl_50, zl_57, zl_59, zl_60, zl_61, zl_62, zl_63, zl_64, zl_68, zl_97, zl_99, zl_100, zl_104, zl_108, zl_114, zl_120, zl_122, zl_126, zl_132, zl_180, zl_181, zl_186, zl_255, zl_900, zl_930, zl_1000, zl_1000000, nI_add, pk_mul, zs_sub, zs_lt, zs_le, zs_eq, zs_inb, zs_cl, zm_eq, zm_eq2, zm_lt, zm_le, mz_lt, mz_le, mm_eq, zs_bit, zs_or1, zs_div, zs_rem, ck_pos, if_pos, if_neg, true_or, or_true, true_and, and_true, false_or, or_false, false_and, and_false, not_true, not_false_iff, if_true, if_false, eq_self, Bool.false_eq_true, cl2_id, Bool.not_true, Bool.not_false]
  | succ j ih =>
    intro k n hk hn
    obtain ⟨n, rfl⟩ : ∃ n', n = n' + 1 := ⟨n - 1, by omega⟩
    have e2 := h.letterOf hO hw (k := r (10 + w) - c + k) (by omega)
    have e3 := h.letterOf hO hv (k := k) (by omega)
    have b2 := wb (r (10 + w) - c + k) (by omega)
    have b3 := vb k (by omega)
    have ih' := ih (k + 1) n (by omega) (by omega)
    rw [fX11_overlap_57, z_al]
    unfold fX11_overlap_104
    by_cases hg : (z_word r w).getD (r (10 + w) - c + k) 0 = (z_word r v).getD k 0
    · rw [decide_eq_true hg, Bool.true_and]
      simp (disch := omega) only [e1, e2, e3, hg, cl2_so, cl1_so, ck_tr, zl_0, zl_1, zl_2, zl_3, zl_4, zl_5, zl_6, zl_7, zl_8, zl_9, zl_10, zl_11, zl_12, zl_15, zl_16, zl_20, zl_24, zl_25, zl_30, zl_31, zl_32, zl_33, zl_44, zl_48, zl_50, zl_57, zl_59, zl_60, zl_61, zl_62, zl_63, zl_64, zl_68, zl_97, zl_99, zl_100, zl_104, zl_108, zl_114, zl_120, zl_122, zl_126, zl_132, zl_180, zl_181, zl_186, zl_255, zl_900, zl_930, zl_1000, zl_1000000, nI_add, pk_mul, zs_sub, zs_lt, zs_le, zs_eq, zs_inb, zs_cl, zm_eq, zm_eq2, zm_lt, zm_le, mz_lt, mz_le, mm_eq, zs_bit, zs_or1, zs_div, zs_rem, ck_pos, if_pos, if_neg, true_or, or_true, true_and, and_true, false_or, or_false, false_and, and_false, not_true, not_false_iff, if_true, if_false, eq_self, Bool.false_eq_true, cl2_id, Bool.not_true, Bool.not_false]
      exact ih'
    · rw [decide_eq_false hg, Bool.false_and]
      obtain ⟨n, rfl⟩ : ∃ n', n = n' + 1 := ⟨n - 1, by omega⟩
      simp (disch := omega) only [e1, e2, e3, hg, cl2_so, cl1_so, ck_tr, zl_0, zl_1, zl_2, zl_3, zl_4, zl_5, zl_6, zl_7, zl_8, zl_9, zl_10, zl_11, zl_12, zl_15, zl_16, zl_20, zl_24, zl_25, zl_30, zl_31, zl_32, zl_33, zl_44, zl_48, zl_50, zl_57, zl_59, zl_60, zl_61, zl_62, zl_63, zl_64, zl_68, zl_97, zl_99, zl_100, zl_104, zl_108, zl_114, zl_120, zl_122, zl_126, zl_132, zl_180, zl_181, zl_186, zl_255, zl_900, zl_930, zl_1000, zl_1000000, nI_add, pk_mul, zs_sub, zs_lt, zs_le, zs_eq, zs_inb, zs_cl, zm_eq, zm_eq2, zm_lt, zm_le, mz_lt, mz_le, mm_eq, zs_bit, zs_or1, zs_div, zs_rem, ck_pos, if_pos, if_neg, true_or, or_true, true_and, and_true, false_or, or_false, false_and, and_false, not_true, not_false_iff, if_true, if_false, eq_self, Bool.false_eq_true, cl2_id, Bool.not_true, Bool.not_false]
      rw [fX11_overlap_57]
      unfold fX11_overlap_112
      simp (disch := omega) only [ite_self, cl2_so, cl1_so, ck_tr, zl_0, zl_1, zl_2, zl_3, zl_4, zl_5, zl_6, zl_7, zl_8, zl_9, zl_10, zl_11, zl_12, zl_15, zl_16, zl_20, zl_24, zl_25, zl_30, zl_31, zl_32, zl_33, zl_44, zl_48, zl_50, zl_57, zl_59, zl_60, zl_61, zl_62, zl_63, zl_64, zl_68, zl_97, zl_99, zl_100, zl_104, zl_108, zl_114, zl_120, zl_122, zl_126, zl_132, zl_180, zl_181, zl_186, zl_255, zl_900, zl_930, zl_1000, zl_1000000, nI_add, pk_mul, zs_sub, zs_lt, zs_le, zs_eq, zs_inb, zs_cl, zm_eq, zm_eq2, zm_lt, zm_le, mz_lt, mz_le, mm_eq, zs_bit, zs_or1, zs_div, zs_rem, ck_pos, if_pos, if_neg, true_or, or_true, true_and, and_true, false_or, or_false, false_and, and_false, not_true, not_false_iff, if_true, if_false, eq_self, Bool.false_eq_true, cl2_id, Bool.not_true, Bool.not_false]
theorem oo46 (h : KM m r s) (hO : KO r s) {w v : Nat} (hw : w < r 5) (hv : v < r 5) : ∀ c n, c ≤ r (10 + w) ∧ c ≤ r (10 + v) → c < n → fX11_overlap_46 n (nI w) (nI v) (nI c) m = some (nI (ovF (z_word r w) (z_word r v) c), m) := by
  obtain ⟨w8, w1, h5, wb⟩ := wl_lt hO hw
  intro c
  induction c with
  | zero =>
    intro n hc hn
    obtain ⟨n, rfl⟩ : ∃ n', n = n' + 1 := ⟨n - 1, by omega⟩
    rw [fX11_overlap_46, ovF]
    simp (disch := omega) only [cl2_so, cl1_so, ck_tr, zl_0, zl_1, zl_2, zl_3, zl_4, zl_5, zl_6, zl_7, zl_8, zl_9, zl_10, zl_11, zl_12, zl_15, zl_16, zl_20, zl_24, zl_25, zl_30, zl_31, zl_32, zl_33, zl_44, zl_48, zl_50, zl_57, zl_59, zl_60, zl_61, zl_62, zl_63, zl_64, zl_68, zl_97, zl_99, zl_100, zl_104, zl_108, zl_114, zl_120, zl_122, zl_126, zl_132, zl_180, zl_181, zl_186, zl_255, zl_900, zl_930, zl_1000, zl_1000000, nI_add, pk_mul, zs_sub, zs_lt, zs_le, zs_eq, zs_inb, zs_cl, zm_eq, zm_eq2, zm_lt, zm_le, mz_lt, mz_le, mm_eq, zs_bit, zs_or1, zs_div, zs_rem, ck_pos, if_pos, if_neg, true_or, or_true, true_and, and_true, false_or, or_false, false_and, and_false, not_true, not_false_iff, if_true, if_false, eq_self, Bool.false_eq_true, cl2_id, Bool.not_true, Bool.not_false]
  | succ c ih =>
    intro n hc hn
    obtain ⟨n, rfl⟩ : ∃ n', n = n' + 1 := ⟨n - 1, by omega⟩
    have e := oo57 h hO hw hv hc (k46 := fX11_overlap_46 n) (c + 1) 0 FU (by omega) (FU_pos (by omega))
    have ih' := ih n (by omega) (by omega)
    have ed := zs_dec (a := c + 1) (by omega)
    rw [Nat.add_sub_cancel] at ed
    rw [ed] at e
    rw [fX11_overlap_46, ovF]
    have eo : oeq (z_word r w) (z_word r v) (c + 1) = z_al (fun k => decide ((z_word r w).getD ((z_word r w).length - (c + 1) + k) 0 = (z_word r v).getD k 0)) 0 (c + 1) := rfl
    rw [← eo] at e
    cases hq : oeq (z_word r w) (z_word r v) (c + 1)
    · rw [hq] at e
      simp (disch := omega) only [cl2_so, cl1_so, ck_tr, zl_0, zl_1, zl_2, zl_3, zl_4, zl_5, zl_6, zl_7, zl_8, zl_9, zl_10, zl_11, zl_12, zl_15, zl_16, zl_20, zl_24, zl_25, zl_30, zl_31, zl_32, zl_33, zl_44, zl_48, zl_50, zl_57, zl_59, zl_60, zl_61, zl_62, zl_63, zl_64, zl_68, zl_97, zl_99, zl_100, zl_104, zl_108, zl_114, zl_120, zl_122, zl_126, zl_132, zl_180, zl_181, zl_186, zl_255, zl_900, zl_930, zl_1000, zl_1000000, nI_add, pk_mul, zs_sub, zs_lt, zs_le, zs_eq, zs_inb, zs_cl, zm_eq, zm_eq2, zm_lt, zm_le, mz_lt, mz_le, mm_eq, zs_bit, zs_or1, zs_div, zs_rem, ck_pos, if_pos, if_neg, true_or, or_true, true_and, and_true, false_or, or_false, false_and, and_false, not_true, not_false_iff, if_true, if_false, eq_self, Bool.false_eq_true, cl2_id, Bool.not_true, Bool.not_false]
      exact e.trans ih'
    · rw [hq] at e
      simp (disch := omega) only [cl2_so, cl1_so, ck_tr, zl_0, zl_1, zl_2, zl_3, zl_4, zl_5, zl_6, zl_7, zl_8, zl_9, zl_10, zl_11, zl_12, zl_15, zl_16, zl_20, zl_24, zl_25, zl_30, zl_31, zl_32, zl_33, zl_44, zl_48, zl_50, zl_57, zl_59, zl_60, zl_61, zl_62, zl_63, zl_64, zl_68, zl_97, zl_99, zl_100, zl_104, zl_108, zl_114, zl_120, zl_122, zl_126, zl_132, zl_180, zl_181, zl_186, zl_255, zl_900, zl_930, zl_1000, zl_1000000, nI_add, pk_mul, zs_sub, zs_lt, zs_le, zs_eq, zs_inb, zs_cl, zm_eq, zm_eq2, zm_lt, zm_le, mz_lt, mz_le, mm_eq, zs_bit, zs_or1, zs_div, zs_rem, ck_pos, if_pos, if_neg, true_or, or_true, true_and, and_true, false_or, or_false, false_and, and_false, not_true, not_false_iff, if_true, if_false, eq_self, Bool.false_eq_true, cl2_id, Bool.not_true, Bool.not_false]
      exact e
theorem KM.overlap (h : KM m r s) (hO : KO r s) {w v : Nat} (hw : w < r 5) (hv : v < r 5) : fX11_overlap (nI w) (nI v) m = some (nI (ovR (z_word r w) (z_word r v)), m) := by
  obtain ⟨w8, w1, h5, wb⟩ := wl_lt hO hw
  obtain ⟨v8, v1, -, vb⟩ := wl_lt hO hv
  have e1 := h.2.1 (10 + w) (by omega)
  have e2 := h.2.1 (10 + v) (by omega)
  unfold fX11_overlap fX11_overlap_42 ovR minL
  rw [z_word_len, z_word_len]
  by_cases hl : r (10 + v) < r (10 + w)
  · rw [if_pos hl]
    simp (disch := omega) only [e1, e2, cl2_so, cl1_so, ck_tr, zl_0, zl_1, zl_2, zl_3, zl_4, zl_5, zl_6, zl_7, zl_8, zl_9, zl_10, zl_11, zl_12, zl_15, zl_16, zl_20, zl_24, zl_25, zl_30, zl_31, zl_32, zl_33, zl_44, zl_48, zl_50, zl_57, zl_59, zl_60, zl_61, zl_62, zl_63, zl_64, zl_68, zl_97, zl_99, zl_100, zl_104, zl_108, zl_114, zl_120, zl_122, zl_126, zl_132, zl_180, zl_181, zl_186, zl_255, zl_900, zl_930, zl_1000, zl_1000000, nI_add, pk_mul, zs_sub, zs_lt, zs_le, zs_eq, zs_inb, zs_cl, zm_eq, zm_eq2, zm_lt, zm_le, mz_lt, mz_le, mm_eq, zs_bit, zs_or1, zs_div, zs_rem, ck_pos, if_pos, if_neg, true_or, or_true, true_and, and_true, false_or, or_false, false_and, and_false, not_true, not_false_iff, if_true, if_false, eq_self, Bool.false_eq_true, cl2_id, Bool.not_true, Bool.not_false]
    exact oo46 h hO hw hv (r (10 + v)) FU (by omega) (FU_pos (by omega))
  · rw [if_neg hl]
    by_cases hl2 : r (10 + v) = r (10 + w)
    · rw [← hl2]
      rw [← hl2] at e1
      simp (disch := omega) only [e1, e2, cl2_so, cl1_so, ck_tr, zl_0, zl_1, zl_2, zl_3, zl_4, zl_5, zl_6, zl_7, zl_8, zl_9, zl_10, zl_11, zl_12, zl_15, zl_16, zl_20, zl_24, zl_25, zl_30, zl_31, zl_32, zl_33, zl_44, zl_48, zl_50, zl_57, zl_59, zl_60, zl_61, zl_62, zl_63, zl_64, zl_68, zl_97, zl_99, zl_100, zl_104, zl_108, zl_114, zl_120, zl_122, zl_126, zl_132, zl_180, zl_181, zl_186, zl_255, zl_900, zl_930, zl_1000, zl_1000000, nI_add, pk_mul, zs_sub, zs_lt, zs_le, zs_eq, zs_inb, zs_cl, zm_eq, zm_eq2, zm_lt, zm_le, mz_lt, mz_le, mm_eq, zs_bit, zs_or1, zs_div, zs_rem, ck_pos, if_pos, if_neg, true_or, or_true, true_and, and_true, false_or, or_false, false_and, and_false, not_true, not_false_iff, if_true, if_false, eq_self, Bool.false_eq_true, cl2_id, Bool.not_true, Bool.not_false]
      exact oo46 h hO hw hv (r (10 + v)) FU (by omega) (FU_pos (by omega))
    · simp (disch := omega) only [e1, e2, cl2_so, cl1_so, ck_tr, zl_0, zl_1, zl_2, zl_3, zl_4, zl_5, zl_6, zl_7, zl_8, zl_9, zl_10, zl_11, zl_12, zl_15, zl_16, zl_20, zl_24, zl_25, zl_30, zl_31, zl_32, zl_33, zl_44, zl_48, zl_50, zl_57, zl_59, zl_60, zl_61, zl_62, zl_63, zl_64, zl_68, zl_97, zl_99, zl_100, zl_104, zl_108, zl_114, zl_120, zl_122, zl_126, zl_132, zl_180, zl_181, zl_186, zl_255, zl_900, zl_930, zl_1000, zl_1000000, nI_add, pk_mul, zs_sub, zs_lt, zs_le, zs_eq, zs_inb, zs_cl, zm_eq, zm_eq2, zm_lt, zm_le, mz_lt, mz_le, mm_eq, zs_bit, zs_or1, zs_div, zs_rem, ck_pos, if_pos, if_neg, true_or, or_true, true_and, and_true, false_or, or_false, false_and, and_false, not_true, not_false_iff, if_true, if_false, eq_self, Bool.false_eq_true, cl2_id, Bool.not_true, Bool.not_false]
      exact oo46 h hO hw hv (r (10 + w)) FU (by omega) (FU_pos (by omega))
end PK1
