/-! pack: the reference's shortest row of a set of words -/
def alv (r : Nat → Nat) (S w v : Nat) : Bool := decide (v = w) || (!S.testBit v || !lin (z_word r w) (z_word r v))
def alo (r : Nat → Nat) (S w : Nat) : Bool := S.testBit w && z_al (alv r S w) 0 (r 5)
def cvo (c0 L : Nat) : Option Nat → Nat
  | none => c0
  | some x => L + x
def TbM (m : Me) (r : Nat → Nat) (A b : Nat) : Prop := ∀ Q, 1 ≤ Q → Q < b → sub6 Q A = true → ∀ w, w < r 5 → Q.testBit w = true → m.1 153 (6 * Q + w) = nI (D6 (r 5) (wlen r) (oR r) Q w)
theorem FU_s : FU = 1999 + 1 := rfl
theorem mno_z (f : Nat → Nat) : ∀ j k o, mno (fun v => (0 : Nat).testBit v) f k j o = o
  | 0, _, _ => rfl
  | j + 1, k, o => by
    rw [mno, Nat.zero_testBit]
    exact mno_z f j (k + 1) o
section PK4
variable {m : Me} {H : Bool} {t : Nat} {r s : Nat → Nat} {x1 x2 x3 x4 : Int32}
theorem rw24 (h : KM m r s) (hO : KO r s) {S w acc : Nat} (hS : S < 64) (hw : w < r 5) {k4 : Int32 → Int32 → Int32 → Me → Option (Int32 × Me)} : ∀ j k n (b : Bool), k + j = r 5 → j < n → fX11_rowOf_24 n k4 (nI S) (nI acc) (nI w) (nI (if b then 1 else 0)) (nI k) m = k4 (nI S) (nI (if b && z_al (alv r S w) k j then acc ||| 2 ^ w else acc)) (nI (w + 1)) m := by
  have h5 := hO.1.w.1
  have e5 := h.2.1 5 (by omega)
  intro j
  induction j with
  | zero =>
    intro k n b hk hn
    obtain ⟨n, rfl⟩ : ∃ n', n = n' + 1 := ⟨n - 1, by omega⟩
    rw [fX11_rowOf_24, z_al, Bool.and_true]
    unfold fX11_rowOf_91
    cases b
    · simp (disch := omega) only [e5, nI_orN acc 0, Nat.or_zero, cl2_so, cl1_so, ck_tr, zl_0, zl_1, zl_2, zl_3, zl_4, zl_5, zl_6, zl_7, zl_8, zl_9, zl_10, zl_11, zl_12, zl_15, zl_16, zl_20, zl_24, zl_25, zl_30, zl_31, zl_32, zl_33, zl_44, zl_48, zl_50, zl_57, zl_59, zl_60, zl_61, zl_62, zl_63, zl_64, zl_68, zl_97, zl_99, zl_100, zl_104, zl_108, zl_114, zl_120, zl_122, zl_126, zl_132, zl_180, zl_181, zl_186, zl_255, zl_900, zl_930, zl_1000, zl_1000000, nI_add, pk_mul, zs_sub, zs_lt, zs_le, zs_eq, zs_inb, zs_cl, zm_eq, zm_eq2, zm_lt, zm_le, mz_lt, mz_le, mm_eq, zs_bit, zs_or1, zs_div, zs_rem, ck_pos, if_pos, if_neg, true_or, or_true, true_and, and_true, false_or, or_false, false_and, and_false, not_true, not_false_iff, if_true, if_false, eq_self, Bool.false_eq_true, cl2_id, Bool.not_true, Bool.not_false]
    · simp (disch := omega) only [e5, cl2_so, cl1_so, ck_tr, zl_0, zl_1, zl_2, zl_3, zl_4, zl_5, zl_6, zl_7, zl_8, zl_9, zl_10, zl_11, zl_12, zl_15, zl_16, zl_20, zl_24, zl_25, zl_30, zl_31, zl_32, zl_33, zl_44, zl_48, zl_50, zl_57, zl_59, zl_60, zl_61, zl_62, zl_63, zl_64, zl_68, zl_97, zl_99, zl_100, zl_104, zl_108, zl_114, zl_120, zl_122, zl_126, zl_132, zl_180, zl_181, zl_186, zl_255, zl_900, zl_930, zl_1000, zl_1000000, nI_add, pk_mul, zs_sub, zs_lt, zs_le, zs_eq, zs_inb, zs_cl, zm_eq, zm_eq2, zm_lt, zm_le, mz_lt, mz_le, mm_eq, zs_bit, zs_or1, zs_div, zs_rem, ck_pos, if_pos, if_neg, true_or, or_true, true_and, and_true, false_or, or_false, false_and, and_false, not_true, not_false_iff, if_true, if_false, eq_self, Bool.false_eq_true, cl2_id, Bool.not_true, Bool.not_false]
  | succ j ih =>
    intro k n b hk hn
    obtain ⟨n, rfl⟩ : ∃ n', n = n' + 1 := ⟨n - 1, by omega⟩
    rw [fX11_rowOf_24, z_al]
    unfold fX11_rowOf_69 fX11_rowOf_65 fX11_rowOf_70
    cases b
    · have ih' := ih (k + 1) n false (by omega) (by omega)
      simp only [Bool.false_eq_true, if_false, Bool.false_and] at ih' ⊢
      simp (disch := omega) only [e5, cl2_so, cl1_so, ck_tr, zl_0, zl_1, zl_2, zl_3, zl_4, zl_5, zl_6, zl_7, zl_8, zl_9, zl_10, zl_11, zl_12, zl_15, zl_16, zl_20, zl_24, zl_25, zl_30, zl_31, zl_32, zl_33, zl_44, zl_48, zl_50, zl_57, zl_59, zl_60, zl_61, zl_62, zl_63, zl_64, zl_68, zl_97, zl_99, zl_100, zl_104, zl_108, zl_114, zl_120, zl_122, zl_126, zl_132, zl_180, zl_181, zl_186, zl_255, zl_900, zl_930, zl_1000, zl_1000000, nI_add, pk_mul, zs_sub, zs_lt, zs_le, zs_eq, zs_inb, zs_cl, zm_eq, zm_eq2, zm_lt, zm_le, mz_lt, mz_le, mm_eq, zs_bit, zs_or1, zs_div, zs_rem, ck_pos, if_pos, if_neg, true_or, or_true, true_and, and_true, false_or, or_false, false_and, and_false, not_true, not_false_iff, if_true, if_false, eq_self, Bool.false_eq_true, cl2_id, Bool.not_true, Bool.not_false]
      exact ih'
    · have ih1 := ih (k + 1) n true (by omega) (by omega)
      have ih0 := ih (k + 1) n false (by omega) (by omega)
      simp only [Bool.false_eq_true, if_false, if_true, Bool.false_and, Bool.true_and] at ih0 ih1 ⊢
      by_cases hkw : k = w
      · have ea : alv r S w k = true := by unfold alv; rw [decide_eq_true hkw]; rfl
        rw [ea, Bool.true_and]
        simp (disch := omega) only [e5, hkw, cl2_so, cl1_so, ck_tr, zl_0, zl_1, zl_2, zl_3, zl_4, zl_5, zl_6, zl_7, zl_8, zl_9, zl_10, zl_11, zl_12, zl_15, zl_16, zl_20, zl_24, zl_25, zl_30, zl_31, zl_32, zl_33, zl_44, zl_48, zl_50, zl_57, zl_59, zl_60, zl_61, zl_62, zl_63, zl_64, zl_68, zl_97, zl_99, zl_100, zl_104, zl_108, zl_114, zl_120, zl_122, zl_126, zl_132, zl_180, zl_181, zl_186, zl_255, zl_900, zl_930, zl_1000, zl_1000000, nI_add, pk_mul, zs_sub, zs_lt, zs_le, zs_eq, zs_inb, zs_cl, zm_eq, zm_eq2, zm_lt, zm_le, mz_lt, mz_le, mm_eq, zs_bit, zs_or1, zs_div, zs_rem, ck_pos, if_pos, if_neg, true_or, or_true, true_and, and_true, false_or, or_false, false_and, and_false, not_true, not_false_iff, if_true, if_false, eq_self, Bool.false_eq_true, cl2_id, Bool.not_true, Bool.not_false]
        rw [← hkw]
        rw [← hkw] at ih1
        exact ih1
      · have eh := fX11_has_e (br := S) (k := k) (by omega) (by omega) m
        cases hb : S.testBit k
        · have ea : alv r S w k = true := by unfold alv; rw [hb]; simp
          rw [hb] at eh
          rw [ea, Bool.true_and]
          simp (disch := omega) only [e5, hkw, eh, cl2_so, cl1_so, ck_tr, zl_0, zl_1, zl_2, zl_3, zl_4, zl_5, zl_6, zl_7, zl_8, zl_9, zl_10, zl_11, zl_12, zl_15, zl_16, zl_20, zl_24, zl_25, zl_30, zl_31, zl_32, zl_33, zl_44, zl_48, zl_50, zl_57, zl_59, zl_60, zl_61, zl_62, zl_63, zl_64, zl_68, zl_97, zl_99, zl_100, zl_104, zl_108, zl_114, zl_120, zl_122, zl_126, zl_132, zl_180, zl_181, zl_186, zl_255, zl_900, zl_930, zl_1000, zl_1000000, nI_add, pk_mul, zs_sub, zs_lt, zs_le, zs_eq, zs_inb, zs_cl, zm_eq, zm_eq2, zm_lt, zm_le, mz_lt, mz_le, mm_eq, zs_bit, zs_or1, zs_div, zs_rem, ck_pos, if_pos, if_neg, true_or, or_true, true_and, and_true, false_or, or_false, false_and, and_false, not_true, not_false_iff, if_true, if_false, eq_self, Bool.false_eq_true, cl2_id, Bool.not_true, Bool.not_false]
          exact ih1
        · have ei := h.isIn hO hw (v := k) (by omega)
          rw [hb] at eh
          cases hl : lin (z_word r w) (z_word r k)
          · have ea : alv r S w k = true := by unfold alv; rw [hl]; simp
            rw [hl] at ei
            rw [ea, Bool.true_and]
            simp (disch := omega) only [e5, hkw, eh, ei, cl2_so, cl1_so, ck_tr, zl_0, zl_1, zl_2, zl_3, zl_4, zl_5, zl_6, zl_7, zl_8, zl_9, zl_10, zl_11, zl_12, zl_15, zl_16, zl_20, zl_24, zl_25, zl_30, zl_31, zl_32, zl_33, zl_44, zl_48, zl_50, zl_57, zl_59, zl_60, zl_61, zl_62, zl_63, zl_64, zl_68, zl_97, zl_99, zl_100, zl_104, zl_108, zl_114, zl_120, zl_122, zl_126, zl_132, zl_180, zl_181, zl_186, zl_255, zl_900, zl_930, zl_1000, zl_1000000, nI_add, pk_mul, zs_sub, zs_lt, zs_le, zs_eq, zs_inb, zs_cl, zm_eq, zm_eq2, zm_lt, zm_le, mz_lt, mz_le, mm_eq, zs_bit, zs_or1, zs_div, zs_rem, ck_pos, if_pos, if_neg, true_or, or_true, true_and, and_true, false_or, or_false, false_and, and_false, not_true, not_false_iff, if_true, if_false, eq_self, Bool.false_eq_true, cl2_id, Bool.not_true, Bool.not_false]
            exact ih1
          · have ea : alv r S w k = false := by unfold alv; rw [hl, hb, decide_eq_false hkw]; rfl
            rw [hl] at ei
            rw [ea, Bool.false_and]
            simp only [Bool.false_eq_true, if_false]
            simp (disch := omega) only [e5, hkw, eh, ei, cl2_so, cl1_so, ck_tr, zl_0, zl_1, zl_2, zl_3, zl_4, zl_5, zl_6, zl_7, zl_8, zl_9, zl_10, zl_11, zl_12, zl_15, zl_16, zl_20, zl_24, zl_25, zl_30, zl_31, zl_32, zl_33, zl_44, zl_48, zl_50, zl_57, zl_59, zl_60, zl_61, zl_62, zl_63, zl_64, zl_68, zl_97, zl_99, zl_100, zl_104, zl_108, zl_114, zl_120, zl_122, zl_126, zl_132, zl_180, zl_181, zl_186, zl_255, zl_900, zl_930, zl_1000, zl_1000000, nI_add, pk_mul, zs_sub, zs_lt, zs_le, zs_eq, zs_inb, zs_cl, zm_eq, zm_eq2, zm_lt, zm_le, mz_lt, mz_le, mm_eq, zs_bit, zs_or1, zs_div, zs_rem, ck_pos, if_pos, if_neg, true_or, or_true, true_and, and_true, false_or, or_false, false_and, and_false, not_true, not_false_iff, if_true, if_false, eq_self, Bool.false_eq_true, cl2_id, Bool.not_true, Bool.not_false]
            exact ih0
theorem rw4 (h : KM m r s) (hO : KO r s) {S : Nat} (hS : S < 64) : ∀ j k n acc, k + j = r 5 → j < n → acc < 64 → fX11_rowOf_4 n (nI S) (nI acc) (nI k) m = fX11_rowOf_110 (nI (z_or (alo r S) k j acc)) (if z_or (alo r S) k j acc = 0 then nI 0 else nI 1000000) m := by
  have h5 := hO.1.w.1
  have e5 := h.2.1 5 (by omega)
  intro j
  induction j with
  | zero =>
    intro k n acc hk hn ha
    obtain ⟨n, rfl⟩ : ∃ n', n = n' + 1 := ⟨n - 1, by omega⟩
    rw [fX11_rowOf_4, z_or]
    by_cases hz : acc = 0
    · simp (disch := omega) only [e5, hz, cl2_so, cl1_so, ck_tr, zl_0, zl_1, zl_2, zl_3, zl_4, zl_5, zl_6, zl_7, zl_8, zl_9, zl_10, zl_11, zl_12, zl_15, zl_16, zl_20, zl_24, zl_25, zl_30, zl_31, zl_32, zl_33, zl_44, zl_48, zl_50, zl_57, zl_59, zl_60, zl_61, zl_62, zl_63, zl_64, zl_68, zl_97, zl_99, zl_100, zl_104, zl_108, zl_114, zl_120, zl_122, zl_126, zl_132, zl_180, zl_181, zl_186, zl_255, zl_900, zl_930, zl_1000, zl_1000000, nI_add, pk_mul, zs_sub, zs_lt, zs_le, zs_eq, zs_inb, zs_cl, zm_eq, zm_eq2, zm_lt, zm_le, mz_lt, mz_le, mm_eq, zs_bit, zs_or1, zs_div, zs_rem, ck_pos, if_pos, if_neg, true_or, or_true, true_and, and_true, false_or, or_false, false_and, and_false, not_true, not_false_iff, if_true, if_false, eq_self, Bool.false_eq_true, cl2_id, Bool.not_true, Bool.not_false]
    · simp (disch := omega) only [e5, hz, cl2_so, cl1_so, ck_tr, zl_0, zl_1, zl_2, zl_3, zl_4, zl_5, zl_6, zl_7, zl_8, zl_9, zl_10, zl_11, zl_12, zl_15, zl_16, zl_20, zl_24, zl_25, zl_30, zl_31, zl_32, zl_33, zl_44, zl_48, zl_50, zl_57, zl_59, zl_60, zl_61, zl_62, zl_63, zl_64, zl_68, zl_97, zl_99, zl_100, zl_104, zl_108, zl_114, zl_120, zl_122, zl_126, zl_132, zl_180, zl_181, zl_186, zl_255, zl_900, zl_930, zl_1000, zl_1000000, nI_add, pk_mul, zs_sub, zs_lt, zs_le, zs_eq, zs_inb, zs_cl, zm_eq, zm_eq2, zm_lt, zm_le, mz_lt, mz_le, mm_eq, zs_bit, zs_or1, zs_div, zs_rem, ck_pos, if_pos, if_neg, true_or, or_true, true_and, and_true, false_or, or_false, false_and, and_false, not_true, not_false_iff, if_true, if_false, eq_self, Bool.false_eq_true, cl2_id, Bool.not_true, Bool.not_false]
  | succ j ih =>
    intro k n acc hk hn ha
    obtain ⟨n, rfl⟩ : ∃ n', n = n' + 1 := ⟨n - 1, by omega⟩
    have eh := fX11_has_e (br := S) (k := k) (by omega) (by omega) m
    have e := rw24 h hO hS (w := k) (acc := acc) (by omega) (k4 := fX11_rowOf_4 n) (r 5) 0 FU (S.testBit k) (by omega) (FU_pos (by omega))
    rw [fX11_rowOf_4, z_or]
    simp (disch := omega) only [e5, eh, cl2_so, cl1_so, ck_tr, zl_0, zl_1, zl_2, zl_3, zl_4, zl_5, zl_6, zl_7, zl_8, zl_9, zl_10, zl_11, zl_12, zl_15, zl_16, zl_20, zl_24, zl_25, zl_30, zl_31, zl_32, zl_33, zl_44, zl_48, zl_50, zl_57, zl_59, zl_60, zl_61, zl_62, zl_63, zl_64, zl_68, zl_97, zl_99, zl_100, zl_104, zl_108, zl_114, zl_120, zl_122, zl_126, zl_132, zl_180, zl_181, zl_186, zl_255, zl_900, zl_930, zl_1000, zl_1000000, nI_add, pk_mul, zs_sub, zs_lt, zs_le, zs_eq, zs_inb, zs_cl, zm_eq, zm_eq2, zm_lt, zm_le, mz_lt, mz_le, mm_eq, zs_bit, zs_or1, zs_div, zs_rem, ck_pos, if_pos, if_neg, true_or, or_true, true_and, and_true, false_or, or_false, false_and, and_false, not_true, not_false_iff, if_true, if_false, eq_self, Bool.false_eq_true, cl2_id, Bool.not_true, Bool.not_false]
    rw [e]
    exact ih (k + 1) n _ (by omega) (by omega) (by
      split
      · exact Nat.or_lt_two_pow (n := 6) ha (Nat.pow_lt_pow_right (by decide) (by omega))
      · exact ha)
theorem alo_wh (hO : OKr r) {S : Nat} (hS : S < 2 ^ r 5) : z_or (alo r S) 0 (r 5) 0 = wh r S := by
  have h5 := hO.w.1
  have hS6 : S < 64 := Nat.lt_of_lt_of_le hS (pw6 h5)
  obtain ⟨w1, w2⟩ := wh_t hO hS
  refine ext6 _ (Nat.lt_of_lt_of_le (z_or_lt _ _) (pw6 h5)) _ (by omega) (fun v hv => ?_)
  rw [z_or_test, Nat.zero_testBit, Bool.false_or, w2 v hv]
  by_cases hn : v < r 5
  · rw [decide_eq_true (show 0 ≤ v ∧ v < 0 + r 5 by omega), Bool.true_and]
    unfold alo
    congr 1
    rw [Bool.eq_iff_iff, z_al_iff, decide_eq_true_eq, and6 _ (hol_lt hO v) _ hS6]
    constructor
    · rintro h u hu ⟨q1, q2⟩
      rw [hol_t, Bool.and_eq_true, decide_eq_true_eq] at q1
      obtain ⟨q3, q4⟩ := q1
      unfold hld at q4
      rw [Bool.and_eq_true, decide_eq_true_eq] at q4
      have := h u (by omega) (by omega)
      unfold alv at this
      rw [q2, q4.2, decide_eq_false (fun z => q4.1 z.symm)] at this
      cases this
    · intro h i _ hi
      unfold alv
      by_cases e : i = v
      · rw [decide_eq_true e]; rfl
      · cases hb : S.testBit i
        · simp
        · cases hl : lin (z_word r v) (z_word r i)
          · simp
          · exfalso
            refine h i (by omega) ⟨?_, hb⟩
            rw [hol_t, decide_eq_true (show i < r 5 by omega), Bool.true_and]
            unfold hld
            rw [hl, decide_eq_true (show v ≠ i from fun z => e z.symm)]
            rfl
  · rw [t_hi hS (by omega), decide_eq_false (show ¬ (0 ≤ v ∧ v < 0 + r 5) by omega), Bool.false_and, Bool.false_and]
theorem D6_cr (hO : OKr r) {S : Nat} (hS : S < 2 ^ r 5) {w : Nat} (hw : w < r 5) (hb : (wh r S).testBit w = true) : D6 (r 5) (wlen r) (oC r) (wh r S) w = D6 (r 5) (wlen r) (oR r) (wh r S) w := by
  have h5 := hO.w.1
  have hS6 : S < 64 := Nat.lt_of_lt_of_le hS (pw6 h5)
  obtain ⟨w1, w2⟩ := wh_t hO hS
  unfold D6
  refine dp_congr h5 64 (wh r S) w (by omega) hw hb (fun a b ha hb' hab h1 h2 => ?_)
  have key : ∀ a b, a < r 5 → b < r 5 → a ≠ b → (wh r S).testBit a = true → (wh r S).testBit b = true → lin (z_word r a) (z_word r b) = false := by
    intro a b ha hb hab h1 h2
    rw [w2 a (by omega), Bool.and_eq_true, decide_eq_true_eq] at h1
    rw [w2 b (by omega), Bool.and_eq_true] at h2
    cases hl : lin (z_word r a) (z_word r b)
    · rfl
    · exfalso
      refine (and6 _ (hol_lt hO a) _ hS6).mp h1.2 b (by omega) ⟨?_, h2.1⟩
      rw [hol_t, decide_eq_true hb, Bool.true_and]
      unfold hld
      rw [hl, decide_eq_true hab]
      rfl
  unfold oC oR
  refine (ov_eq ?_ ?_ (key a b ha hb' hab h1 h2) (key b a hb' ha (fun z => hab z.symm) h2 h1)).symm
  · rw [z_word_len]; exact (hO.w.2 a ha).1
  · rw [z_word_len]; exact (hO.w.2 b hb').1
theorem rw201 (hO : KO r s) {y : Int32} {A P w R c0 : Nat} (hP : P < 64) (hw : w < r 5) (hPw : P.testBit w = true) (hRP : R < P) (hR1 : R = 0 ∨ 1 ≤ R) (hc0 : R = 0 ∨ c0 = 1000000) (hc1 : c0 ≤ 1000000) {k114 : Int32 → Int32 → Int32 → Me → Option (Int32 × Me)} {k123 : Int32 → Int32 → Int32 → Int32 → Me → Option (Int32 × Me)} : ∀ j k n o (m : Me), KM m r s → (∀ v, v < r 5 → R.testBit v = true → m.1 153 (6 * R + v) = nI (D6 (r 5) (wlen r) (oR r) R v)) → m.1 153 (6 * P + w) = nI (cvo c0 (wlen r w) o) → (∀ x, o = some x → x ≤ 504) → k + j = r 5 → j < n → ∃ m', fX11_rowOf_201 n k114 k123 (nI A) y (nI P) (nI w) (nI R) (nI k) m = fX11_rowOf_325 k114 k123 (nI A) y (nI P) (nI w) m' ∧ Ak sN m m' ∧ KM m' r s ∧ (∀ b i, ¬ (b = 153 ∧ i = 6 * P + w) → m'.1 b i = m.1 b i) ∧ m'.1 153 (6 * P + w) = nI (cvo c0 (wlen r w) (mno (fun v => R.testBit v) (fun v => D6 (r 5) (wlen r) (oR r) R v - oR r v w) k j o)) := by
  have h5 := hO.1.w.1
  have hlen := hO.1.w.2
  have hLw := hlen w hw
  intro j
  induction j with
  | zero =>
    intro k n o m h hT hc ho hk hn
    obtain ⟨n, rfl⟩ : ∃ n', n = n' + 1 := ⟨n - 1, by omega⟩
    have e5 := h.2.1 5 (by omega)
    refine ⟨m, ?_, Ak.rf m, h, fun _ _ _ => rfl, hc⟩
    rw [fX11_rowOf_201]
    simp (disch := omega) only [e5, cl2_so, cl1_so, ck_tr, zl_0, zl_1, zl_2, zl_3, zl_4, zl_5, zl_6, zl_7, zl_8, zl_9, zl_10, zl_11, zl_12, zl_15, zl_16, zl_20, zl_24, zl_25, zl_30, zl_31, zl_32, zl_33, zl_44, zl_48, zl_50, zl_57, zl_59, zl_60, zl_61, zl_62, zl_63, zl_64, zl_68, zl_97, zl_99, zl_100, zl_104, zl_108, zl_114, zl_120, zl_122, zl_126, zl_132, zl_180, zl_181, zl_186, zl_255, zl_900, zl_930, zl_1000, zl_1000000, nI_add, pk_mul, zs_sub, zs_lt, zs_le, zs_eq, zs_inb, zs_cl, zm_eq, zm_eq2, zm_lt, zm_le, mz_lt, mz_le, mm_eq, zs_bit, zs_or1, zs_div, zs_rem, ck_pos, if_pos, if_neg, true_or, or_true, true_and, and_true, false_or, or_false, false_and, and_false, not_true, not_false_iff, if_true, if_false, eq_self, Bool.false_eq_true, cl2_id, Bool.not_true, Bool.not_false]
  | succ j ih =>
    intro k n o m h hT hc ho hk hn
    obtain ⟨n, rfl⟩ : ∃ n', n = n' + 1 := ⟨n - 1, by omega⟩
    have e5 := h.2.1 5 (by omega)
    have eh1 := fX11_has_e (br := P) (k := w) (by omega) (by omega) m
    have eh2 := fX11_has_e (br := R) (k := k) (by omega) (by omega) m
    rw [hPw] at eh1
    rw [fX11_rowOf_201, mno]
    unfold fX11_rowOf_318 fX11_rowOf_319
    cases hb : R.testBit k
    · rw [hb] at eh2
      obtain ⟨m2, f1, f2⟩ := ih (k + 1) n o m h hT hc ho (by omega) (by omega)
      refine ⟨m2, ?_, f2⟩
      simp (disch := omega) only [e5, eh1, eh2, cl2_so, cl1_so, ck_tr, zl_0, zl_1, zl_2, zl_3, zl_4, zl_5, zl_6, zl_7, zl_8, zl_9, zl_10, zl_11, zl_12, zl_15, zl_16, zl_20, zl_24, zl_25, zl_30, zl_31, zl_32, zl_33, zl_44, zl_48, zl_50, zl_57, zl_59, zl_60, zl_61, zl_62, zl_63, zl_64, zl_68, zl_97, zl_99, zl_100, zl_104, zl_108, zl_114, zl_120, zl_122, zl_126, zl_132, zl_180, zl_181, zl_186, zl_255, zl_900, zl_930, zl_1000, zl_1000000, nI_add, pk_mul, zs_sub, zs_lt, zs_le, zs_eq, zs_inb, zs_cl, zm_eq, zm_eq2, zm_lt, zm_le, mz_lt, mz_le, mm_eq, zs_bit, zs_or1, zs_div, zs_rem, ck_pos, if_pos, if_neg, true_or, or_true, true_and, and_true, false_or, or_false, false_and, and_false, not_true, not_false_iff, if_true, if_false, eq_self, Bool.false_eq_true, cl2_id, Bool.not_true, Bool.not_false]
      exact f1
    · rw [hb] at eh2
      have hR0 : R ≠ 0 := fun z => by rw [z, Nat.zero_testBit] at hb; cases hb
      have hR1' : 1 ≤ R := by omega
      have hc6 : c0 = 1000000 := by omega
      have eD := hT k (by omega) hb
      have e10 : m.1 141 (10 + w) = nI (wlen r w) := h.2.1 (10 + w) (by omega)
      have eo : fX11_overlap (nI k) (nI w) m = some (nI (oR r k w), m) := h.overlap hO (w := k) (v := w) (by omega) hw
      have hle := D6_le h5 (ov := oR r) (fun w hw => (hlen w hw).2) (show R < 64 by omega) hR1' (show k < r 5 by omega)
      have hge := D6_ge (N := r 5) (len := wlen r) (ov := oR r) R k
      have hov := (oR_le (r := r) k w).1
      generalize D6 (r 5) (wlen r) (oR r) R k = D at eD hle hge
      generalize oR r k w = O at eo hov
      have go : ∀ c o', nI c = nI (cvo c0 (wlen r w) o') → (∀ x, o' = some x → x ≤ 504) → ∃ m', fX11_rowOf_201 n k114 k123 (nI A) y (nI P) (nI w) (nI R) (nI (k + 1)) (setI m 153 (6 * P + w) (nI c)) = fX11_rowOf_325 k114 k123 (nI A) y (nI P) (nI w) m' ∧ Ak sN m m' ∧ KM m' r s ∧ (∀ b i, ¬ (b = 153 ∧ i = 6 * P + w) → m'.1 b i = m.1 b i) ∧ m'.1 153 (6 * P + w) = nI (cvo c0 (wlen r w) (mno (fun v => R.testBit v) (fun v => D6 (r 5) (wlen r) (oR r) R v - oR r v w) (k + 1) j o')) := by
        intro c o' hco ho'
        have p1 : Ak sN m (setI m 153 (6 * P + w) (nI c)) := (Ak.rf m).set _ (sN_in (by omega) _)
        obtain ⟨m2, f1, f2, f3, f4, f5⟩ := ih (k + 1) n o' _ (h.ag p1.agN) (fun v hv hvb => (sI_nj (by omega)).trans (hT v hv hvb)) ((sI_eq _ _ _ _).trans hco) ho' (by omega) (by omega)
        exact ⟨m2, f1, p1.tr f2, f3, fun b i hbi => (f4 b i hbi).trans (if_neg hbi), f5⟩
      cases o with
      | none =>
        have hc' : m.1 153 (6 * P + w) = nI 1000000 := by rw [hc]; show nI c0 = _; rw [hc6]
        obtain ⟨m2, f1, f2⟩ := go (D + wlen r w - O) (some (D - O)) (by congr 1; show _ = wlen r w + (D - O); omega) (fun x hx => by have := Option.some.inj hx; omega)
        refine ⟨m2, ?_, f2⟩
        simp (disch := omega) only [e5, eh1, eh2, eD, e10, eo, hc', cl2_so, cl1_so, ck_tr, zl_0, zl_1, zl_2, zl_3, zl_4, zl_5, zl_6, zl_7, zl_8, zl_9, zl_10, zl_11, zl_12, zl_15, zl_16, zl_20, zl_24, zl_25, zl_30, zl_31, zl_32, zl_33, zl_44, zl_48, zl_50, zl_57, zl_59, zl_60, zl_61, zl_62, zl_63, zl_64, zl_68, zl_97, zl_99, zl_100, zl_104, zl_108, zl_114, zl_120, zl_122, zl_126, zl_132, zl_180, zl_181, zl_186, zl_255, zl_900, zl_930, zl_1000, zl_1000000, nI_add, pk_mul, zs_sub, zs_lt, zs_le, zs_eq, zs_inb, zs_cl, zm_eq, zm_eq2, zm_lt, zm_le, mz_lt, mz_le, mm_eq, zs_bit, zs_or1, zs_div, zs_rem, ck_pos, if_pos, if_neg, true_or, or_true, true_and, and_true, false_or, or_false, false_and, and_false, not_true, not_false_iff, if_true, if_false, eq_self, Bool.false_eq_true, cl2_id, Bool.not_true, Bool.not_false]
        exact f1
      | some x =>
        have hx := ho x rfl
        have hc' : m.1 153 (6 * P + w) = nI (wlen r w + x) := hc
        by_cases hq : D - O < x
        · obtain ⟨m2, f1, f2⟩ := go (D + wlen r w - O) (some (D - O)) (by congr 1; show _ = wlen r w + (D - O); omega) (fun x hx => by have := Option.some.inj hx; omega)
          refine ⟨m2, ?_, ?_⟩
          · simp (disch := omega) only [e5, eh1, eh2, eD, e10, eo, hc', cl2_so, cl1_so, ck_tr, zl_0, zl_1, zl_2, zl_3, zl_4, zl_5, zl_6, zl_7, zl_8, zl_9, zl_10, zl_11, zl_12, zl_15, zl_16, zl_20, zl_24, zl_25, zl_30, zl_31, zl_32, zl_33, zl_44, zl_48, zl_50, zl_57, zl_59, zl_60, zl_61, zl_62, zl_63, zl_64, zl_68, zl_97, zl_99, zl_100, zl_104, zl_108, zl_114, zl_120, zl_122, zl_126, zl_132, zl_180, zl_181, zl_186, zl_255, zl_900, zl_930, zl_1000, zl_1000000, nI_add, pk_mul, zs_sub, zs_lt, zs_le, zs_eq, zs_inb, zs_cl, zm_eq, zm_eq2, zm_lt, zm_le, mz_lt, mz_le, mm_eq, zs_bit, zs_or1, zs_div, zs_rem, ck_pos, if_pos, if_neg, true_or, or_true, true_and, and_true, false_or, or_false, false_and, and_false, not_true, not_false_iff, if_true, if_false, eq_self, Bool.false_eq_true, cl2_id, Bool.not_true, Bool.not_false]
            exact f1
          · simp only [hq, if_true, mnS]
            exact f2
        · obtain ⟨m2, f1, f2⟩ := go (wlen r w + x) (some x) rfl ho
          refine ⟨m2, ?_, ?_⟩
          · simp (disch := omega) only [e5, eh1, eh2, eD, e10, eo, hc', cl2_so, cl1_so, ck_tr, zl_0, zl_1, zl_2, zl_3, zl_4, zl_5, zl_6, zl_7, zl_8, zl_9, zl_10, zl_11, zl_12, zl_15, zl_16, zl_20, zl_24, zl_25, zl_30, zl_31, zl_32, zl_33, zl_44, zl_48, zl_50, zl_57, zl_59, zl_60, zl_61, zl_62, zl_63, zl_64, zl_68, zl_97, zl_99, zl_100, zl_104, zl_108, zl_114, zl_120, zl_122, zl_126, zl_132, zl_180, zl_181, zl_186, zl_255, zl_900, zl_930, zl_1000, zl_1000000, nI_add, pk_mul, zs_sub, zs_lt, zs_le, zs_eq, zs_inb, zs_cl, zm_eq, zm_eq2, zm_lt, zm_le, mz_lt, mz_le, mm_eq, zs_bit, zs_or1, zs_div, zs_rem, ck_pos, if_pos, if_neg, true_or, or_true, true_and, and_true, false_or, or_false, false_and, and_false, not_true, not_false_iff, if_true, if_false, eq_self, Bool.false_eq_true, cl2_id, Bool.not_true, Bool.not_false]
            exact f1
          · simp only [hq, if_true, if_false, mnS]
            exact f2
def lsO (A P : Nat) (o o' : Option Nat) : Option Nat := if P = A then o' else o
theorem rw123 (hO : KO r s) {A P : Nat} (hA : A < 2 ^ r 5) (h1 : 1 ≤ P) (hPA : P ≤ A) (hsub : sub6 P A = true) {k114 : Int32 → Int32 → Int32 → Me → Option (Int32 × Me)} : ∀ j k n o (m : Me), KM m r s → TbM m r A P → (∀ w, w < k → P.testBit w = true → m.1 153 (6 * P + w) = nI (D6 (r 5) (wlen r) (oR r) P w)) → (∀ x, o = some x → x ≤ 504) → k + j = r 5 → j < n → ∃ m', fX11_rowOf_123 n k114 (nI A) (nI (o.getD 1000000)) (nI P) (nI k) m = k114 (nI A) (nI ((if P = A then mno (fun v => A.testBit v) (D6 (r 5) (wlen r) (oR r) A) k j o else o).getD 1000000)) (nI (P + 1)) m' ∧ Ak sN m m' ∧ KM m' r s ∧ TbM m' r A (P + 1) := by
  have h5 := hO.1.w.1
  have hlen := hO.1.w.2
  have hA6 : A < 64 := Nat.lt_of_lt_of_le hA (pw6 h5)
  have hz : P &&& (63 ^^^ A) = 0 := by unfold sub6 at hsub; exact of_decide_eq_true hsub
  have ea := andn_I P (by omega) A hA6
  rw [hz] at ea
  intro j
  induction j with
  | zero =>
    intro k n o m h hT hR ho hk hn
    obtain ⟨n, rfl⟩ : ∃ n', n = n' + 1 := ⟨n - 1, by omega⟩
    have e5 := h.2.1 5 (by omega)
    refine ⟨m, ?_, Ak.rf m, h, fun Q a b c w hw hb => ?_⟩
    · rw [fX11_rowOf_123, mno]
      unfold fX11_rowOf_378
      simp (disch := omega) only [e5, ite_self, cl2_so, cl1_so, ck_tr, zl_0, zl_1, zl_2, zl_3, zl_4, zl_5, zl_6, zl_7, zl_8, zl_9, zl_10, zl_11, zl_12, zl_15, zl_16, zl_20, zl_24, zl_25, zl_30, zl_31, zl_32, zl_33, zl_44, zl_48, zl_50, zl_57, zl_59, zl_60, zl_61, zl_62, zl_63, zl_64, zl_68, zl_97, zl_99, zl_100, zl_104, zl_108, zl_114, zl_120, zl_122, zl_126, zl_132, zl_180, zl_181, zl_186, zl_255, zl_900, zl_930, zl_1000, zl_1000000, nI_add, pk_mul, zs_sub, zs_lt, zs_le, zs_eq, zs_inb, zs_cl, zm_eq, zm_eq2, zm_lt, zm_le, mz_lt, mz_le, mm_eq, zs_bit, zs_or1, zs_div, zs_rem, ck_pos, if_pos, if_neg, true_or, or_true, true_and, and_true, false_or, or_false, false_and, and_false, not_true, not_false_iff, if_true, if_false, eq_self, Bool.false_eq_true, cl2_id, Bool.not_true, Bool.not_false]
    · by_cases q : Q = P
      · subst q; exact hR w (by omega) hb
      · exact hT Q a (by omega) c w hw hb
  | succ j ih =>
    intro k n o m h hT hR ho hk hn
    obtain ⟨n, rfl⟩ : ∃ n', n = n' + 1 := ⟨n - 1, by omega⟩
    have e5 := h.2.1 5 (by omega)
    have eh := fX11_has_e (br := P) (k := k) (by omega) (by omega) m
    have ec := clr_I P (by omega) k (by omega)
    have hcle := clr_le P k
    rw [fX11_rowOf_123]
    unfold fX11_rowOf_194 fX11_rowOf_197
    cases hb : P.testBit k
    · rw [hb] at eh
      have p1 : Ak sN m (setI m 153 (6 * P + k) (nI 1000000)) := (Ak.rf m).set _ (sN_in (by omega) _)
      have hm1 := h.ag p1.agN
      have e51 := hm1.2.1 5 (by omega)
      have eh1 := fX11_has_e (br := P) (k := k) (by omega) (by omega) (setI m 153 (6 * P + k) (nI 1000000))
      rw [hb] at eh1
      obtain ⟨m2, f1, f2, f3, f4⟩ := ih (k + 1) n o _ hm1 (fun Q a b c w hw hwb => (sI_nj (by omega)).trans (hT Q a b c w hw hwb)) (fun w hw hwb => by
        by_cases q : w = k
        · subst q; rw [hb] at hwb; cases hwb
        · rw [sI_nj (by omega)]; exact hR w (by omega) hwb) ho (by omega) (by omega)
      have eo : (if P = A then mno (fun v => A.testBit v) (D6 (r 5) (wlen r) (oR r) A) k (j + 1) o else o) = (if P = A then mno (fun v => A.testBit v) (D6 (r 5) (wlen r) (oR r) A) (k + 1) j o else o) := by
        by_cases q : P = A
        · rw [if_pos q, if_pos q, mno, ← q, hb]
          rfl
        · rw [if_neg q, if_neg q]
      rw [eo]
      refine ⟨m2, ?_, p1.tr f2, f3, f4⟩
      simp (disch := omega) only [e5, ea, eh, ec, cl2_so, cl1_so, ck_tr, zl_0, zl_1, zl_2, zl_3, zl_4, zl_5, zl_6, zl_7, zl_8, zl_9, zl_10, zl_11, zl_12, zl_15, zl_16, zl_20, zl_24, zl_25, zl_30, zl_31, zl_32, zl_33, zl_44, zl_48, zl_50, zl_57, zl_59, zl_60, zl_61, zl_62, zl_63, zl_64, zl_68, zl_97, zl_99, zl_100, zl_104, zl_108, zl_114, zl_120, zl_122, zl_126, zl_132, zl_180, zl_181, zl_186, zl_255, zl_900, zl_930, zl_1000, zl_1000000, nI_add, pk_mul, zs_sub, zs_lt, zs_le, zs_eq, zs_inb, zs_cl, zm_eq, zm_eq2, zm_lt, zm_le, mz_lt, mz_le, mm_eq, zs_bit, zs_or1, zs_div, zs_rem, ck_pos, if_pos, if_neg, true_or, or_true, true_and, and_true, false_or, or_false, false_and, and_false, not_true, not_false_iff, if_true, if_false, eq_self, Bool.false_eq_true, cl2_id, Bool.not_true, Bool.not_false]
      rw [FU_s, fX11_rowOf_201]
      unfold fX11_rowOf_325 fX11_rowOf_372
      simp (disch := omega) only [e51, eh1, ite_self, cl2_so, cl1_so, ck_tr, zl_0, zl_1, zl_2, zl_3, zl_4, zl_5, zl_6, zl_7, zl_8, zl_9, zl_10, zl_11, zl_12, zl_15, zl_16, zl_20, zl_24, zl_25, zl_30, zl_31, zl_32, zl_33, zl_44, zl_48, zl_50, zl_57, zl_59, zl_60, zl_61, zl_62, zl_63, zl_64, zl_68, zl_97, zl_99, zl_100, zl_104, zl_108, zl_114, zl_120, zl_122, zl_126, zl_132, zl_180, zl_181, zl_186, zl_255, zl_900, zl_930, zl_1000, zl_1000000, nI_add, pk_mul, zs_sub, zs_lt, zs_le, zs_eq, zs_inb, zs_cl, zm_eq, zm_eq2, zm_lt, zm_le, mz_lt, mz_le, mm_eq, zs_bit, zs_or1, zs_div, zs_rem, ck_pos, if_pos, if_neg, true_or, or_true, true_and, and_true, false_or, or_false, false_and, and_false, not_true, not_false_iff, if_true, if_false, eq_self, Bool.false_eq_true, cl2_id, Bool.not_true, Bool.not_false]
      exact f1
    · rw [hb] at eh
      obtain ⟨q1, q2, q3⟩ := clr_lt P (by omega) k (by omega) hb
      have e10 : m.1 141 (10 + k) = nI (wlen r k) := h.2.1 (10 + k) (by omega)
      have hlk := hlen k (by omega)
      have hsubR : clr P k = 0 ∨ 1 ≤ clr P k := by omega
      have hDle := D6_le h5 (ov := oR r) (fun w hw => (hlen w hw).2) (show P < 64 by omega) h1 (show k < r 5 by omega)
      have go : ∀ c0, (clr P k = 0 ∨ c0 = 1000000) → c0 ≤ 1000000 → nI (cvo c0 (wlen r k) (mno (fun v => (clr P k).testBit v) (fun v => D6 (r 5) (wlen r) (oR r) (clr P k) v - oR r v k) 0 (r 5) none)) = nI (D6 (r 5) (wlen r) (oR r) P k) → ∃ m', fX11_rowOf_201 FU k114 (fX11_rowOf_123 n k114) (nI A) (nI (o.getD 1000000)) (nI P) (nI k) (nI (clr P k)) (nI 0) (setI m 153 (6 * P + k) (nI c0)) = k114 (nI A) (nI ((if P = A then mno (fun v => A.testBit v) (D6 (r 5) (wlen r) (oR r) A) k (j + 1) o else o).getD 1000000)) (nI (P + 1)) m' ∧ Ak sN m m' ∧ KM m' r s ∧ TbM m' r A (P + 1) := by
        intro c0 hc0 hc1 hv
        have p1 : Ak sN m (setI m 153 (6 * P + k) (nI c0)) := (Ak.rf m).set _ (sN_in (by omega) _)
        have hsb : ∀ v, v < r 5 → (clr P k).testBit v = true → (setI m 153 (6 * P + k) (nI c0)).1 153 (6 * clr P k + v) = nI (D6 (r 5) (wlen r) (oR r) (clr P k) v) := by
          intro v hv hvb
          rw [sI_nj (by omega)]
          have hne : clr P k ≠ 0 := fun z => by rw [z, Nat.zero_testBit] at hvb; cases hvb
          refine hT (clr P k) (by omega) q1 ?_ v hv hvb
          rw [sub6_iff _ (by omega) _ hA6]
          intro u hu hcu
          rw [clr_t P (by omega) k (by omega) u hu, Bool.and_eq_true] at hcu
          exact (sub6_iff _ (by omega) _ hA6).mp hsub u hu hcu.1
        obtain ⟨m2, f1, f2, f3, f4, f5⟩ := rw201 (s := s) hO (y := nI (o.getD 1000000)) (A := A) (P := P) (w := k) (R := clr P k) (c0 := c0) (by omega) (by omega) hb q1 hsubR hc0 hc1 (k114 := k114) (k123 := fX11_rowOf_123 n k114) (r 5) 0 FU none _ (h.ag p1.agN) hsb (sI_eq _ _ _ _) (fun x e => by cases e) (by omega) (FU_pos (by omega))
        rw [hv] at f5
        have hold : ∀ b i, ¬ (b = 153 ∧ i = 6 * P + k) → m2.1 b i = m.1 b i := fun b i hbi => (f4 b i hbi).trans (if_neg hbi)
        have hT2 : TbM m2 r A P := fun Q a b c w hw hwb => (hold _ _ (by omega)).trans (hT Q a b c w hw hwb)
        have hR2 : ∀ w, w < k + 1 → P.testBit w = true → m2.1 153 (6 * P + w) = nI (D6 (r 5) (wlen r) (oR r) P w) := by
          intro w hw hwb
          by_cases q : w = k
          · subst q; exact f5
          · rw [hold _ _ (by omega)]; exact hR w (by omega) hwb
        have e52 := f3.2.1 5 (by omega)
        have eh2 := fX11_has_e (br := P) (k := k) (by omega) (by omega) m2
        rw [hb] at eh2
        rw [f1]
        unfold fX11_rowOf_325 fX11_rowOf_372
        by_cases q : P = A
        · subst q
          rw [if_pos rfl, mno, hb]
          cases o with
          | none =>
            obtain ⟨m3, g1, g2, g3, g4⟩ := ih (k + 1) n (some (D6 (r 5) (wlen r) (oR r) P k)) m2 f3 hT2 hR2 (fun x hx => by have := Option.some.inj hx; omega) (by omega) (by omega)
            rw [if_pos rfl] at g1
            refine ⟨m3, ?_, (p1.tr f2).tr g2, g3, g4⟩
            simp only [Option.getD, if_true, mnS] at g1 ⊢
            simp (disch := omega) only [eh2, f5, cl2_so, cl1_so, ck_tr, zl_0, zl_1, zl_2, zl_3, zl_4, zl_5, zl_6, zl_7, zl_8, zl_9, zl_10, zl_11, zl_12, zl_15, zl_16, zl_20, zl_24, zl_25, zl_30, zl_31, zl_32, zl_33, zl_44, zl_48, zl_50, zl_57, zl_59, zl_60, zl_61, zl_62, zl_63, zl_64, zl_68, zl_97, zl_99, zl_100, zl_104, zl_108, zl_114, zl_120, zl_122, zl_126, zl_132, zl_180, zl_181, zl_186, zl_255, zl_900, zl_930, zl_1000, zl_1000000, nI_add, pk_mul, zs_sub, zs_lt, zs_le, zs_eq, zs_inb, zs_cl, zm_eq, zm_eq2, zm_lt, zm_le, mz_lt, mz_le, mm_eq, zs_bit, zs_or1, zs_div, zs_rem, ck_pos, if_pos, if_neg, true_or, or_true, true_and, and_true, false_or, or_false, false_and, and_false, not_true, not_false_iff, if_true, if_false, eq_self, Bool.false_eq_true, cl2_id, Bool.not_true, Bool.not_false]
            exact g1
          | some x =>
            have hx := ho x rfl
            by_cases hq : D6 (r 5) (wlen r) (oR r) P k < x
            · obtain ⟨m3, g1, g2, g3, g4⟩ := ih (k + 1) n (some (D6 (r 5) (wlen r) (oR r) P k)) m2 f3 hT2 hR2 (fun x hx => by have := Option.some.inj hx; omega) (by omega) (by omega)
              rw [if_pos rfl] at g1
              refine ⟨m3, ?_, (p1.tr f2).tr g2, g3, g4⟩
              simp only [Option.getD, if_true, hq, mnS] at g1 ⊢
              simp (disch := omega) only [eh2, f5, cl2_so, cl1_so, ck_tr, zl_0, zl_1, zl_2, zl_3, zl_4, zl_5, zl_6, zl_7, zl_8, zl_9, zl_10, zl_11, zl_12, zl_15, zl_16, zl_20, zl_24, zl_25, zl_30, zl_31, zl_32, zl_33, zl_44, zl_48, zl_50, zl_57, zl_59, zl_60, zl_61, zl_62, zl_63, zl_64, zl_68, zl_97, zl_99, zl_100, zl_104, zl_108, zl_114, zl_120, zl_122, zl_126, zl_132, zl_180, zl_181, zl_186, zl_255, zl_900, zl_930, zl_1000, zl_1000000, nI_add, pk_mul, zs_sub, zs_lt, zs_le, zs_eq, zs_inb, zs_cl, zm_eq, zm_eq2, zm_lt, zm_le, mz_lt, mz_le, mm_eq, zs_bit, zs_or1, zs_div, zs_rem, ck_pos, if_pos, if_neg, true_or, or_true, true_and, and_true, false_or, or_false, false_and, and_false, not_true, not_false_iff, if_true, if_false, eq_self, Bool.false_eq_true, cl2_id, Bool.not_true, Bool.not_false]
              exact g1
            · obtain ⟨m3, g1, g2, g3, g4⟩ := ih (k + 1) n (some x) m2 f3 hT2 hR2 ho (by omega) (by omega)
              rw [if_pos rfl] at g1
              refine ⟨m3, ?_, (p1.tr f2).tr g2, g3, g4⟩
              simp only [Option.getD, if_true, if_false, hq, mnS] at g1 ⊢
              simp (disch := omega) only [eh2, f5, cl2_so, cl1_so, ck_tr, zl_0, zl_1, zl_2, zl_3, zl_4, zl_5, zl_6, zl_7, zl_8, zl_9, zl_10, zl_11, zl_12, zl_15, zl_16, zl_20, zl_24, zl_25, zl_30, zl_31, zl_32, zl_33, zl_44, zl_48, zl_50, zl_57, zl_59, zl_60, zl_61, zl_62, zl_63, zl_64, zl_68, zl_97, zl_99, zl_100, zl_104, zl_108, zl_114, zl_120, zl_122, zl_126, zl_132, zl_180, zl_181, zl_186, zl_255, zl_900, zl_930, zl_1000, zl_1000000, nI_add, pk_mul, zs_sub, zs_lt, zs_le, zs_eq, zs_inb, zs_cl, zm_eq, zm_eq2, zm_lt, zm_le, mz_lt, mz_le, mm_eq, zs_bit, zs_or1, zs_div, zs_rem, ck_pos, if_pos, if_neg, true_or, or_true, true_and, and_true, false_or, or_false, false_and, and_false, not_true, not_false_iff, if_true, if_false, eq_self, Bool.false_eq_true, cl2_id, Bool.not_true, Bool.not_false]
              exact g1
        · obtain ⟨m3, g1, g2, g3, g4⟩ := ih (k + 1) n o m2 f3 hT2 hR2 ho (by omega) (by omega)
          rw [if_neg q] at g1 ⊢
          refine ⟨m3, ?_, (p1.tr f2).tr g2, g3, g4⟩
          simp (disch := omega) only [q, cl2_so, cl1_so, ck_tr, zl_0, zl_1, zl_2, zl_3, zl_4, zl_5, zl_6, zl_7, zl_8, zl_9, zl_10, zl_11, zl_12, zl_15, zl_16, zl_20, zl_24, zl_25, zl_30, zl_31, zl_32, zl_33, zl_44, zl_48, zl_50, zl_57, zl_59, zl_60, zl_61, zl_62, zl_63, zl_64, zl_68, zl_97, zl_99, zl_100, zl_104, zl_108, zl_114, zl_120, zl_122, zl_126, zl_132, zl_180, zl_181, zl_186, zl_255, zl_900, zl_930, zl_1000, zl_1000000, nI_add, pk_mul, zs_sub, zs_lt, zs_le, zs_eq, zs_inb, zs_cl, zm_eq, zm_eq2, zm_lt, zm_le, mz_lt, mz_le, mm_eq, zs_bit, zs_or1, zs_div, zs_rem, ck_pos, if_pos, if_neg, true_or, or_true, true_and, and_true, false_or, or_false, false_and, and_false, not_true, not_false_iff, if_true, if_false, eq_self, Bool.false_eq_true, cl2_id, Bool.not_true, Bool.not_false]
          exact g1
      by_cases hz2 : P = 2 ^ k
      · have hz0 := q2.mpr hz2
        have hv0 : nI (cvo (wlen r k) (wlen r k) (mno (fun v => (clr P k).testBit v) (fun v => D6 (r 5) (wlen r) (oR r) (clr P k) v - oR r v k) 0 (r 5) none)) = nI (D6 (r 5) (wlen r) (oR r) P k) := by
          rw [hz0, mno_z]
          show nI (wlen r k) = _
          rw [hz2, D6_1]
        obtain ⟨m3, g1, g2⟩ := go (wlen r k) (Or.inl hz0) (by omega) hv0
        refine ⟨m3, ?_, g2⟩
        rw [hz0] at ec g1
        simp (disch := omega) only [e5, ea, eh, ec, e10, cl2_so, cl1_so, ck_tr, zl_0, zl_1, zl_2, zl_3, zl_4, zl_5, zl_6, zl_7, zl_8, zl_9, zl_10, zl_11, zl_12, zl_15, zl_16, zl_20, zl_24, zl_25, zl_30, zl_31, zl_32, zl_33, zl_44, zl_48, zl_50, zl_57, zl_59, zl_60, zl_61, zl_62, zl_63, zl_64, zl_68, zl_97, zl_99, zl_100, zl_104, zl_108, zl_114, zl_120, zl_122, zl_126, zl_132, zl_180, zl_181, zl_186, zl_255, zl_900, zl_930, zl_1000, zl_1000000, nI_add, pk_mul, zs_sub, zs_lt, zs_le, zs_eq, zs_inb, zs_cl, zm_eq, zm_eq2, zm_lt, zm_le, mz_lt, mz_le, mm_eq, zs_bit, zs_or1, zs_div, zs_rem, ck_pos, if_pos, if_neg, true_or, or_true, true_and, and_true, false_or, or_false, false_and, and_false, not_true, not_false_iff, if_true, if_false, eq_self, Bool.false_eq_true, cl2_id, Bool.not_true, Bool.not_false]
        exact g1
      · have hz0 : ¬ clr P k = 0 := fun z => hz2 (q2.mp z)
        obtain ⟨m3, g1, g2⟩ := go 1000000 (Or.inr rfl) (by omega) (by
          have eD := D6_2 h5 (len := wlen r) (ov := oR r) (show P < 64 by omega) (show k < r 5 by omega) hb hz2
          obtain ⟨v, hv6, hvb⟩ := nz6 (clr P k) (by omega) (by omega)
          have hvN : v < r 5 := by
            rcases Nat.lt_or_ge v (r 5) with q | q
            · exact q
            · rw [clr_t P (by omega) k (by omega) v hv6, t_hi (show P < 2 ^ r 5 by omega) q] at hvb
              cases hvb
          have hsome := mno_some (g := fun v => (clr P k).testBit v) (f := fun v => D6 (r 5) (wlen r) (oR r) (clr P k) v - oR r v k) (r 5) 0 none (Or.inr ⟨v, by omega, by omega, hvb⟩)
          cases hm : mno (fun v => (clr P k).testBit v) (fun v => D6 (r 5) (wlen r) (oR r) (clr P k) v - oR r v k) 0 (r 5) none with
          | none => exact absurd hm hsome
          | some x =>
            rw [hm] at eD
            rw [eD]
            rfl)
        refine ⟨m3, ?_, g2⟩
        simp (disch := omega) only [e5, ea, eh, ec, hz0, cl2_so, cl1_so, ck_tr, zl_0, zl_1, zl_2, zl_3, zl_4, zl_5, zl_6, zl_7, zl_8, zl_9, zl_10, zl_11, zl_12, zl_15, zl_16, zl_20, zl_24, zl_25, zl_30, zl_31, zl_32, zl_33, zl_44, zl_48, zl_50, zl_57, zl_59, zl_60, zl_61, zl_62, zl_63, zl_64, zl_68, zl_97, zl_99, zl_100, zl_104, zl_108, zl_114, zl_120, zl_122, zl_126, zl_132, zl_180, zl_181, zl_186, zl_255, zl_900, zl_930, zl_1000, zl_1000000, nI_add, pk_mul, zs_sub, zs_lt, zs_le, zs_eq, zs_inb, zs_cl, zm_eq, zm_eq2, zm_lt, zm_le, mz_lt, mz_le, mm_eq, zs_bit, zs_or1, zs_div, zs_rem, ck_pos, if_pos, if_neg, true_or, or_true, true_and, and_true, false_or, or_false, false_and, and_false, not_true, not_false_iff, if_true, if_false, eq_self, Bool.false_eq_true, cl2_id, Bool.not_true, Bool.not_false]
        exact g1
theorem rw114 (hO : KO r s) {A : Nat} (hA : A < 2 ^ r 5) : ∀ j k n o (m : Me), KM m r s → TbM m r A k → (j = 0 ∨ o = none) → (∀ x, o = some x → x ≤ 504) → 1 ≤ k → k + j = A + 1 → j < n → ∃ m', fX11_rowOf_114 n (nI A) (nI (o.getD 1000000)) (nI k) m = some (nI ((if j = 0 then o else mno (fun v => A.testBit v) (D6 (r 5) (wlen r) (oR r) A) 0 (r 5) none).getD 1000000), m') ∧ Ak sN m m' := by
  have h5 := hO.1.w.1
  have hlen := hO.1.w.2
  have hA6 : A < 64 := Nat.lt_of_lt_of_le hA (pw6 h5)
  intro j
  induction j with
  | zero =>
    intro k n o m h hT hj ho h1 hk hn
    obtain ⟨n, rfl⟩ : ∃ n', n = n' + 1 := ⟨n - 1, by omega⟩
    refine ⟨m, ?_, Ak.rf m⟩
    rw [fX11_rowOf_114]
    simp (disch := omega) only [cl2_so, cl1_so, ck_tr, zl_0, zl_1, zl_2, zl_3, zl_4, zl_5, zl_6, zl_7, zl_8, zl_9, zl_10, zl_11, zl_12, zl_15, zl_16, zl_20, zl_24, zl_25, zl_30, zl_31, zl_32, zl_33, zl_44, zl_48, zl_50, zl_57, zl_59, zl_60, zl_61, zl_62, zl_63, zl_64, zl_68, zl_97, zl_99, zl_100, zl_104, zl_108, zl_114, zl_120, zl_122, zl_126, zl_132, zl_180, zl_181, zl_186, zl_255, zl_900, zl_930, zl_1000, zl_1000000, nI_add, pk_mul, zs_sub, zs_lt, zs_le, zs_eq, zs_inb, zs_cl, zm_eq, zm_eq2, zm_lt, zm_le, mz_lt, mz_le, mm_eq, zs_bit, zs_or1, zs_div, zs_rem, ck_pos, if_pos, if_neg, true_or, or_true, true_and, and_true, false_or, or_false, false_and, and_false, not_true, not_false_iff, if_true, if_false, eq_self, Bool.false_eq_true, cl2_id, Bool.not_true, Bool.not_false]
  | succ j ih =>
    intro k n o m h hT hj ho h1 hk hn
    obtain ⟨n, rfl⟩ : ∃ n', n = n' + 1 := ⟨n - 1, by omega⟩
    have hon : o = none := by rcases hj with q | q; omega; exact q
    subst hon
    rw [fX11_rowOf_114]
    cases hs : sub6 k A
    · have hz : ¬ k &&& (63 ^^^ A) = 0 := by unfold sub6 at hs; exact of_decide_eq_false hs
      have hle : k &&& (63 ^^^ A) ≤ k := Nat.and_le_left
      have ea := andn_I k (by omega) A hA6
      have hkA : k ≠ A := by
        intro q
        subst q
        have : sub6 k k = true := (sub6_iff k hA6 k hA6).mpr (fun _ _ q => q)
        rw [hs] at this
        cases this
      obtain ⟨m2, f1, f2⟩ := ih (k + 1) n none m h (fun Q a b c w hw hb => by
        by_cases q : Q = k
        · subst q; rw [hs] at c; cases c
        · exact hT Q a (by omega) c w hw hb) (Or.inr rfl) ho (by omega) (by omega) (by omega)
      have hj0 : ¬ j = 0 := by omega
      rw [if_neg hj0] at f1
      refine ⟨m2, ?_, f2⟩
      rw [if_neg (show ¬ j + 1 = 0 by omega)]
      rw [FU_s, fX11_rowOf_123]
      unfold fX11_rowOf_378
      have e5 := h.2.1 5 (by omega)
      simp (disch := omega) only [e5, ea, hz, ite_self, cl2_so, cl1_so, ck_tr, zl_0, zl_1, zl_2, zl_3, zl_4, zl_5, zl_6, zl_7, zl_8, zl_9, zl_10, zl_11, zl_12, zl_15, zl_16, zl_20, zl_24, zl_25, zl_30, zl_31, zl_32, zl_33, zl_44, zl_48, zl_50, zl_57, zl_59, zl_60, zl_61, zl_62, zl_63, zl_64, zl_68, zl_97, zl_99, zl_100, zl_104, zl_108, zl_114, zl_120, zl_122, zl_126, zl_132, zl_180, zl_181, zl_186, zl_255, zl_900, zl_930, zl_1000, zl_1000000, nI_add, pk_mul, zs_sub, zs_lt, zs_le, zs_eq, zs_inb, zs_cl, zm_eq, zm_eq2, zm_lt, zm_le, mz_lt, mz_le, mm_eq, zs_bit, zs_or1, zs_div, zs_rem, ck_pos, if_pos, if_neg, true_or, or_true, true_and, and_true, false_or, or_false, false_and, and_false, not_true, not_false_iff, if_true, if_false, eq_self, Bool.false_eq_true, cl2_id, Bool.not_true, Bool.not_false]
      exact f1
    · obtain ⟨m1, g1, g2, g3, g4⟩ := rw123 (s := s) hO hA h1 (by omega) hs (k114 := fX11_rowOf_114 n) (r 5) 0 FU none m h hT (fun w hw => by omega) ho (by omega) (FU_pos (by omega))
      by_cases hkA : k = A
      · rw [if_pos hkA] at g1
        have hj0 : j = 0 := by omega
        subst hj0
        obtain ⟨m2, f1, f2⟩ := ih (k + 1) n (mno (fun v => A.testBit v) (D6 (r 5) (wlen r) (oR r) A) 0 (r 5) none) m1 g3 g4 (Or.inl rfl) (mno_le (r 5) 0 none (fun x e => by cases e) (fun i _ hi _ => D6_le h5 (ov := oR r) (fun w hw => (hlen w hw).2) hA6 (by omega) (show i < r 5 by omega))) (by omega) (by omega) (by omega)
        refine ⟨m2, ?_, g2.tr f2⟩
        rw [if_pos rfl] at f1
        rw [if_neg (show ¬ 0 + 1 = 0 by omega)]
        have hlt : ¬ A < k := by omega
        simp (disch := omega) only [hlt, cl2_so, cl1_so, ck_tr, zl_0, zl_1, zl_2, zl_3, zl_4, zl_5, zl_6, zl_7, zl_8, zl_9, zl_10, zl_11, zl_12, zl_15, zl_16, zl_20, zl_24, zl_25, zl_30, zl_31, zl_32, zl_33, zl_44, zl_48, zl_50, zl_57, zl_59, zl_60, zl_61, zl_62, zl_63, zl_64, zl_68, zl_97, zl_99, zl_100, zl_104, zl_108, zl_114, zl_120, zl_122, zl_126, zl_132, zl_180, zl_181, zl_186, zl_255, zl_900, zl_930, zl_1000, zl_1000000, nI_add, pk_mul, zs_sub, zs_lt, zs_le, zs_eq, zs_inb, zs_cl, zm_eq, zm_eq2, zm_lt, zm_le, mz_lt, mz_le, mm_eq, zs_bit, zs_or1, zs_div, zs_rem, ck_pos, if_pos, if_neg, true_or, or_true, true_and, and_true, false_or, or_false, false_and, and_false, not_true, not_false_iff, if_true, if_false, eq_self, Bool.false_eq_true, cl2_id, Bool.not_true, Bool.not_false]
        exact g1.trans f1
      · rw [if_neg hkA] at g1
        have hj0 : ¬ j = 0 := by omega
        obtain ⟨m2, f1, f2⟩ := ih (k + 1) n none m1 g3 g4 (Or.inr rfl) ho (by omega) (by omega) (by omega)
        rw [if_neg hj0] at f1
        refine ⟨m2, ?_, g2.tr f2⟩
        rw [if_neg (show ¬ j + 1 = 0 by omega)]
        have hlt : ¬ A < k := by omega
        simp (disch := omega) only [hlt, cl2_so, cl1_so, ck_tr, zl_0, zl_1, zl_2, zl_3, zl_4, zl_5, zl_6, zl_7, zl_8, zl_9, zl_10, zl_11, zl_12, zl_15, zl_16, zl_20, zl_24, zl_25, zl_30, zl_31, zl_32, zl_33, zl_44, zl_48, zl_50, zl_57, zl_59, zl_60, zl_61, zl_62, zl_63, zl_64, zl_68, zl_97, zl_99, zl_100, zl_104, zl_108, zl_114, zl_120, zl_122, zl_126, zl_132, zl_180, zl_181, zl_186, zl_255, zl_900, zl_930, zl_1000, zl_1000000, nI_add, pk_mul, zs_sub, zs_lt, zs_le, zs_eq, zs_inb, zs_cl, zm_eq, zm_eq2, zm_lt, zm_le, mz_lt, mz_le, mm_eq, zs_bit, zs_or1, zs_div, zs_rem, ck_pos, if_pos, if_neg, true_or, or_true, true_and, and_true, false_or, or_false, false_and, and_false, not_true, not_false_iff, if_true, if_false, eq_self, Bool.false_eq_true, cl2_id, Bool.not_true, Bool.not_false]
        exact g1.trans f1
theorem KM.rowOf (h : KM m r s) (hO : KO r s) {S : Nat} (hS : S < 2 ^ r 5) (h1 : 1 ≤ S) : ∃ m', fX11_rowOf (nI S) m = some (nI (rowC r S), m') ∧ Ak sN m m' := by
  have h5 := hO.1.w.1
  have hS6 : S < 64 := Nat.lt_of_lt_of_le hS (pw6 h5)
  have e := rw4 h hO hS6 (r 5) 0 FU 0 (by omega) (FU_pos (by omega)) (by omega)
  have hp := wh_pos hO.1 hS h1
  have hl := (wh_t hO.1 hS).1
  rw [alo_wh hO.1 hS, if_neg (show ¬ wh r S = 0 by omega)] at e
  obtain ⟨m2, f1, f2⟩ := rw114 (s := s) hO (A := wh r S) (by omega) (wh r S) 1 FU none m h (fun Q a b c w hw hb => by omega) (Or.inr rfl) (fun x e => by cases e) (by omega) (by omega) (FU_pos (by omega))
  refine ⟨m2, ?_, f2⟩
  rw [if_neg (show ¬ wh r S = 0 by omega)] at f1
  have em : mno (fun v => (wh r S).testBit v) (D6 (r 5) (wlen r) (oR r) (wh r S)) 0 (r 5) none = mno (fun v => (wh r S).testBit v) (D6 (r 5) (wlen r) (oC r) (wh r S)) 0 (r 5) none := mno_congr _ _ _ (fun _ _ _ => rfl) (fun i _ hi hb => (D6_cr hO.1 hS (show i < r 5 by omega) hb).symm)
  have hsome : mno (fun v => (wh r S).testBit v) (D6 (r 5) (wlen r) (oC r) (wh r S)) 0 (r 5) none ≠ none := by
    obtain ⟨v, hv6, hvb⟩ := nz6 (wh r S) (by omega) hp
    have hvN : v < r 5 := by
      rcases Nat.lt_or_ge v (r 5) with q | q
      · exact q
      · rw [t_hi (show wh r S < 2 ^ r 5 by omega) q] at hvb
        cases hvb
    exact mno_some (r 5) 0 none (Or.inr ⟨v, by omega, by omega, hvb⟩)
  have er : (mno (fun v => (wh r S).testBit v) (D6 (r 5) (wlen r) (oR r) (wh r S)) 0 (r 5) none).getD 1000000 = rowC r S := by
    rw [em]
    unfold rowC
    cases hm : mno (fun v => (wh r S).testBit v) (D6 (r 5) (wlen r) (oC r) (wh r S)) 0 (r 5) none with
    | none => exact absurd hm hsome
    | some x => rfl
  rw [er] at f1
  unfold fX11_rowOf
  rw [show (0 : Int32) = nI 0 from rfl, e]
  unfold fX11_rowOf_110
  exact f1
end PK4
