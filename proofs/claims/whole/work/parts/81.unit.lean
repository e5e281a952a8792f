/-! what the lines are made of, on both sides -/
def isB (b : Nat → Nat) (a n κ i : Nat) : Bool := decide (κ = 1 ∧ n = slen i) && z_al (fun k => decide (nI (b (a + k)) = sch i k)) 0 n
theorem isB_cg {b : Nat → Nat} {a n κ i i' : Nat} (h : sby.getD i [] = sby.getD i' []) : isB b a n κ i = isB b a n κ i' := by
  unfold isB slen sch
  rw [h]
theorem isB_1 {b : Nat → Nat} {a n κ i : Nat} (h : isB b a n κ i = true) : κ = 1 ∧ n = slen i := by
  unfold isB at h
  rw [Bool.and_eq_true, decide_eq_true_eq] at h
  exact h.1
theorem slen_le : ∀ i, i < 32 → slen i ≤ 6 := by decide +kernel
theorem len_e (i : Nat) (m : Me) : fJ0_length_8abf5 i m = some (nI (slen i), m) := rfl
theorem ch_e {i q : Nat} (h : q < slen i) (h2 : q < 1000) (m : Me) : fJ0_charAt_5068e i (nI q) m = some (sch i q, m) := by
  unfold fJ0_charAt_5068e
  simp (disch := omega) only [cl2_so, cl1_so, ck_tr, zl_0, zl_1, zl_2, zl_3, zl_4, zl_5, zl_6, zl_7, zl_8, zl_9, zl_10, zl_11, zl_12, zl_15, zl_16, zl_20, zl_24, zl_25, zl_30, zl_31, zl_32, zl_33, zl_44, zl_48, zl_50, zl_57, zl_59, zl_60, zl_61, zl_62, zl_63, zl_64, zl_68, zl_97, zl_99, zl_100, zl_104, zl_108, zl_114, zl_120, zl_122, zl_126, zl_132, zl_180, zl_181, zl_186, zl_255, zl_900, zl_930, zl_1000, zl_1000000, nI_add, pk_mul, zs_sub, zs_lt, zs_le, zs_eq, zs_inb, zs_cl, zm_eq, zm_eq2, zm_lt, zm_le, mz_lt, mz_le, mm_eq, zs_bit, zs_or1, zs_div, zs_rem, ck_pos, if_pos, if_neg, true_or, or_true, true_and, and_true, false_or, or_false, false_and, and_false, not_true, not_false_iff, if_true, if_false, eq_self, Bool.false_eq_true, cl2_id, Bool.not_true, Bool.not_false]
def flM (m : Me) (nb a : Nat) : Me := setI (setI m 1 8 (nI nb)) 1 9 (nI a)
def flC (F : Option (Int32 × Me)) (m : Me) (nb pl : Nat) : Prop := ∃ m', F = some (nI 0, m') ∧ m'.1 1 8 = nI nb ∧ m'.1 1 9 = nI pl ∧ (∀ x j, x ≠ 1 → m'.1 x j = m.1 x j) ∧ m'.2 = m.2
theorem flC.of {F : Option (Int32 × Me)} {m m1 : Me} {nb pl : Nat} (h : flC F m1 nb pl) (e : ∀ x j, x ≠ 1 → m1.1 x j = m.1 x j) (e2 : m1.2 = m.2) : flC F m nb pl := by
  obtain ⟨m', a, b, c, d, f⟩ := h
  exact ⟨m', a, b, c, fun x j q => (d x j q).trans (e x j q), f.trans e2⟩
theorem flC.gc {F : Option (Int32 × Me)} {m m1 : Me} {nb pl : Nat} (h : flC F m1 nb pl) (e : Gc m m1) : flC F m nb pl := h.of (fun x j q => e.1 x j (by omega)) e.2
theorem fail_e {m : Me} {a : Nat} (h : m.1 1 5 = nI a) (nb : Nat) : fX6_fail (nI nb) m = some (nI 0, flM m nb a) := by
  unfold fX6_fail flM
  rw [show (setI m 1 8 (nI nb)).1 1 5 = nI a from h]
  rfl
theorem flM_x (m : Me) (nb a : Nat) : (flM m nb a).1 1 8 = nI nb ∧ (flM m nb a).1 1 9 = nI a ∧ (∀ x j, x ≠ 1 → (flM m nb a).1 x j = m.1 x j) ∧ (flM m nb a).2 = m.2 := ⟨(sI_nj (by decide)).trans (sI_eq _ _ _ _), sI_eq _ _ _ _, fun x j q => (sI_na q).trans (sI_na q), rfl⟩
theorem flC_fl {m : Me} {nb a : Nat} : flC (some (nI 0, flM m nb a)) m nb a := ⟨_, rfl, flM_x m nb a⟩
def wrM (m : Me) (nb pl : Nat) : Me := setI (setI (setI m 138 13 (nI 1)) 138 9 (nI nb)) 138 10 (nI pl)
theorem wrong_e {m : Me} (h : m.1 138 13 = nI 0) (nb pl : Nat) : fX11_wrong (nI nb) (nI pl) m = some (wrM m nb pl) := by
  unfold fX11_wrong
  rw [h]
  rfl
theorem wrong_d {m : Me} (h : m.1 138 13 = nI 1) (x y : Int32) : fX11_wrong x y m = some m := by
  unfold fX11_wrong
  rw [h]
  rfl
theorem wr_13 (m : Me) (nb pl : Nat) : (wrM m nb pl).1 138 13 = nI 1 := (sI_nj (by decide)).trans ((sI_nj (by decide)).trans (sI_eq _ _ _ _))
def FL (m : Me) (nb pl : Nat) : Prop := m.1 138 13 = nI 1 ∧ m.1 138 9 = nI nb ∧ m.1 138 10 = nI pl
theorem wr_FL (m : Me) (nb pl : Nat) : FL (wrM m nb pl) nb pl := ⟨wr_13 m nb pl, (sI_nj (by decide)).trans (sI_eq _ _ _ _), sI_eq _ _ _ _⟩
/-- all that the reference's reading may change -/
def Gf (m m' : Me) : Prop := (∀ x j, ¬ (x = 138 ∧ (4 ≤ j ∧ j ≤ 10 ∨ j = 13)) → x ≠ 140 → x ≠ 142 → x ≠ 144 → x ≠ 147 → m'.1 x j = m.1 x j) ∧ m'.2 = m.2
theorem Gf.rf (m : Me) : Gf m m := ⟨fun _ _ _ _ _ _ _ => rfl, rfl⟩
theorem Gf.tr {m m' m'' : Me} (h : Gf m m') (h' : Gf m' m'') : Gf m m'' := ⟨fun x j a b c d e => (h'.1 x j a b c d e).trans (h.1 x j a b c d e), h'.2.trans h.2⟩
theorem Gm.gf {m m' : Me} (h : Gm m m') : Gf m m' := ⟨fun x j a b _ _ _ => h.1 x j b (by omega), h.2⟩
theorem Gf.wr {m m' : Me} (h : Gf m m') (nb pl : Nat) : Gf m (wrM m' nb pl) := ⟨fun x j a b c d e => by
  unfold wrM
  rw [sI_1, if_neg (by omega), sI_1, if_neg (by omega), sI_1, if_neg (by omega)]
  exact h.1 x j a b c d e, h.2⟩
theorem Gf.set {m m' : Me} (h : Gf m m') {x0 : Nat} (hx : x0 = 142 ∨ x0 = 144 ∨ x0 = 147) (j0 : Nat) (v : Int32) : Gf m (setI m' x0 j0 v) := ⟨fun x j a b c d e => by
  rw [sI_na (by omega)]
  exact h.1 x j a b c d e, h.2⟩
theorem FL.set {m : Me} {nb pl : Nat} (h : FL m nb pl) {x0 : Nat} (hx : x0 ≠ 138) (j0 : Nat) (v : Int32) : FL (setI m x0 j0 v) nb pl := ⟨(sI_na (by omega)).trans h.1, (sI_na (by omega)).trans h.2.1, (sI_na (by omega)).trans h.2.2⟩
section UNITC
variable {N : Nat} {b : Nat → Nat} {m : Me} {a n κ a' n' κ' : Nat}
/-- the class looks at a token -/
def LC (m : Me) (N : Nat) (b : Nat → Nat) (a n κ : Nat) : Prop := XC m N b ∧ TC m a n κ ∧ TO N b a n κ
theorem LC.gc {m' : Me} (h : LC m N b a n κ) (e : Gc m m') (hT : TC m' a' n' κ') (hO : TO N b a' n' κ') : LC m' N b a' n' κ' := ⟨h.1.fc e, hT, hO⟩
theorem LC.bd (h : LC m N b a n κ) : a + n ≤ N ∧ N ≤ 900 := ⟨h.2.2.1, h.1.1⟩
theorem nm23 (h : LC m N b a n κ) {i : Nat} (hi : i < 32) (hk : κ = 1) (hn : n = slen i) : ∀ j q f, q + j = n → j < f → fX6_isName_23 f i (nI q) m = some (nI (if z_al (fun k => decide (nI (b (a + k)) = sch i k)) q j then 1 else 0), m) := by
  obtain ⟨hX, ⟨t5, t6, t4⟩, o1, o2, o3, o4, o5, o6⟩ := h
  have hN := hX.1
  intro j
  induction j with
  | zero =>
    intro q f hq hf
    obtain ⟨f, rfl⟩ : ∃ n', f = n' + 1 := ⟨f - 1, by omega⟩
    rw [fX6_isName_23, z_al]
    simp (disch := omega) only [t6, cl2_so, cl1_so, ck_tr, zl_0, zl_1, zl_2, zl_3, zl_4, zl_5, zl_6, zl_7, zl_8, zl_9, zl_10, zl_11, zl_12, zl_15, zl_16, zl_20, zl_24, zl_25, zl_30, zl_31, zl_32, zl_33, zl_44, zl_48, zl_50, zl_57, zl_59, zl_60, zl_61, zl_62, zl_63, zl_64, zl_68, zl_97, zl_99, zl_100, zl_104, zl_108, zl_114, zl_120, zl_122, zl_126, zl_132, zl_180, zl_181, zl_186, zl_255, zl_900, zl_930, zl_1000, zl_1000000, nI_add, pk_mul, zs_sub, zs_lt, zs_le, zs_eq, zs_inb, zs_cl, zm_eq, zm_eq2, zm_lt, zm_le, mz_lt, mz_le, mm_eq, zs_bit, zs_or1, zs_div, zs_rem, ck_pos, if_pos, if_neg, true_or, or_true, true_and, and_true, false_or, or_false, false_and, and_false, not_true, not_false_iff, if_true, if_false, eq_self, Bool.false_eq_true, cl2_id, Bool.not_true, Bool.not_false]
  | succ j ih =>
    intro q f hq hf
    obtain ⟨f, rfl⟩ : ∃ n', f = n' + 1 := ⟨f - 1, by omega⟩
    have ih' := ih (q + 1) f (by omega) (by omega)
    have hx := (hX.2.2 (a + q) (by omega)).2
    have hl := (o5 hk).2 q (by omega)
    rw [by8_sm (by omega)] at hx
    rw [fX6_isName_23, z_al]
    by_cases hc : nI (b (a + q)) = sch i q
    · simp (disch := omega) only [t5, t6, ch_e, hx, hc, decide_true, Bool.true_and, cl2_so, cl1_so, ck_tr, zl_0, zl_1, zl_2, zl_3, zl_4, zl_5, zl_6, zl_7, zl_8, zl_9, zl_10, zl_11, zl_12, zl_15, zl_16, zl_20, zl_24, zl_25, zl_30, zl_31, zl_32, zl_33, zl_44, zl_48, zl_50, zl_57, zl_59, zl_60, zl_61, zl_62, zl_63, zl_64, zl_68, zl_97, zl_99, zl_100, zl_104, zl_108, zl_114, zl_120, zl_122, zl_126, zl_132, zl_180, zl_181, zl_186, zl_255, zl_900, zl_930, zl_1000, zl_1000000, nI_add, pk_mul, zs_sub, zs_lt, zs_le, zs_eq, zs_inb, zs_cl, zm_eq, zm_eq2, zm_lt, zm_le, mz_lt, mz_le, mm_eq, zs_bit, zs_or1, zs_div, zs_rem, ck_pos, if_pos, if_neg, true_or, or_true, true_and, and_true, false_or, or_false, false_and, and_false, not_true, not_false_iff, if_true, if_false, eq_self, Bool.false_eq_true, cl2_id, Bool.not_true, Bool.not_false]
      exact ih'
    · simp (disch := omega) only [t5, t6, ch_e, hx, hc, decide_false, Bool.false_and, cl2_so, cl1_so, ck_tr, zl_0, zl_1, zl_2, zl_3, zl_4, zl_5, zl_6, zl_7, zl_8, zl_9, zl_10, zl_11, zl_12, zl_15, zl_16, zl_20, zl_24, zl_25, zl_30, zl_31, zl_32, zl_33, zl_44, zl_48, zl_50, zl_57, zl_59, zl_60, zl_61, zl_62, zl_63, zl_64, zl_68, zl_97, zl_99, zl_100, zl_104, zl_108, zl_114, zl_120, zl_122, zl_126, zl_132, zl_180, zl_181, zl_186, zl_255, zl_900, zl_930, zl_1000, zl_1000000, nI_add, pk_mul, zs_sub, zs_lt, zs_le, zs_eq, zs_inb, zs_cl, zm_eq, zm_eq2, zm_lt, zm_le, mz_lt, mz_le, mm_eq, zs_bit, zs_or1, zs_div, zs_rem, ck_pos, if_pos, if_neg, true_or, or_true, true_and, and_true, false_or, or_false, false_and, and_false, not_true, not_false_iff, if_true, if_false, eq_self, Bool.false_eq_true, cl2_id, Bool.not_true, Bool.not_false]
theorem isn_e (h : LC m N b a n κ) {i : Nat} (hi : i < 32) : fX6_isName i m = some (nI (if isB b a n κ i then 1 else 0), m) := by
  have hs := slen_le i hi
  obtain ⟨hX, ⟨t5, t6, t4⟩, o1, o2, o3, o4, o5, o6⟩ := id h
  have hN := hX.1
  unfold fX6_isName fX6_isName_19 isB
  by_cases hk : κ = 1
  · by_cases hn : n = slen i
    · have := nm23 h hi hk hn n 0 FU (by omega) (FU_pos (by omega))
      rw [t4, hk, if_pos (by decide), len_e, cl2_so, t6, hn, if_pos rfl, ← hn]
      refine this.trans ?_
      rw [decide_eq_true ⟨rfl, rfl⟩, Bool.true_and]
    · have hd : decide (κ = 1 ∧ n = slen i) = false := decide_eq_false (fun q => hn q.2)
      rw [hd, Bool.false_and, t4, hk]
      simp (disch := omega) only [len_e, t6, hn, cl2_so, cl1_so, ck_tr, zl_0, zl_1, zl_2, zl_3, zl_4, zl_5, zl_6, zl_7, zl_8, zl_9, zl_10, zl_11, zl_12, zl_15, zl_16, zl_20, zl_24, zl_25, zl_30, zl_31, zl_32, zl_33, zl_44, zl_48, zl_50, zl_57, zl_59, zl_60, zl_61, zl_62, zl_63, zl_64, zl_68, zl_97, zl_99, zl_100, zl_104, zl_108, zl_114, zl_120, zl_122, zl_126, zl_132, zl_180, zl_181, zl_186, zl_255, zl_900, zl_930, zl_1000, zl_1000000, nI_add, pk_mul, zs_sub, zs_lt, zs_le, zs_eq, zs_inb, zs_cl, zm_eq, zm_eq2, zm_lt, zm_le, mz_lt, mz_le, mm_eq, zs_bit, zs_or1, zs_div, zs_rem, ck_pos, if_pos, if_neg, true_or, or_true, true_and, and_true, false_or, or_false, false_and, and_false, not_true, not_false_iff, if_true, if_false, eq_self, Bool.false_eq_true, cl2_id, Bool.not_true, Bool.not_false]
  · have hd : decide (κ = 1 ∧ n = slen i) = false := decide_eq_false (fun q => hk q.1)
    rw [hd, Bool.false_and]
    simp (disch := omega) only [t4, hk, cl2_so, cl1_so, ck_tr, zl_0, zl_1, zl_2, zl_3, zl_4, zl_5, zl_6, zl_7, zl_8, zl_9, zl_10, zl_11, zl_12, zl_15, zl_16, zl_20, zl_24, zl_25, zl_30, zl_31, zl_32, zl_33, zl_44, zl_48, zl_50, zl_57, zl_59, zl_60, zl_61, zl_62, zl_63, zl_64, zl_68, zl_97, zl_99, zl_100, zl_104, zl_108, zl_114, zl_120, zl_122, zl_126, zl_132, zl_180, zl_181, zl_186, zl_255, zl_900, zl_930, zl_1000, zl_1000000, nI_add, pk_mul, zs_sub, zs_lt, zs_le, zs_eq, zs_inb, zs_cl, zm_eq, zm_eq2, zm_lt, zm_le, mz_lt, mz_le, mm_eq, zs_bit, zs_or1, zs_div, zs_rem, ck_pos, if_pos, if_neg, true_or, or_true, true_and, and_true, false_or, or_false, false_and, and_false, not_true, not_false_iff, if_true, if_false, eq_self, Bool.false_eq_true, cl2_id, Bool.not_true, Bool.not_false]
theorem tkn_1 (h : LC m N b a n κ) (hT : Tk N b (a + n) a' n' κ') {i : Nat} (hi : i < 32) (hb : isB b a n κ i = true) : ∃ m', fX6_takeName i m = some (nI 1, m') ∧ LC m' N b a' n' κ' ∧ Gc m m' := by
  obtain ⟨m', e, g1, g2, g3⟩ := step_e h.1 h.2.1.1 h.2.1.2.1 rfl h.bd.1 hT
  refine ⟨m', ?_, h.gc g2 g1 hT.to, g2⟩
  unfold fX6_takeName
  simp (disch := omega) only [isn_e h hi, hb, e, cl2_so, cl1_so, ck_tr, zl_0, zl_1, zl_2, zl_3, zl_4, zl_5, zl_6, zl_7, zl_8, zl_9, zl_10, zl_11, zl_12, zl_15, zl_16, zl_20, zl_24, zl_25, zl_30, zl_31, zl_32, zl_33, zl_44, zl_48, zl_50, zl_57, zl_59, zl_60, zl_61, zl_62, zl_63, zl_64, zl_68, zl_97, zl_99, zl_100, zl_104, zl_108, zl_114, zl_120, zl_122, zl_126, zl_132, zl_180, zl_181, zl_186, zl_255, zl_900, zl_930, zl_1000, zl_1000000, nI_add, pk_mul, zs_sub, zs_lt, zs_le, zs_eq, zs_inb, zs_cl, zm_eq, zm_eq2, zm_lt, zm_le, mz_lt, mz_le, mm_eq, zs_bit, zs_or1, zs_div, zs_rem, ck_pos, if_pos, if_neg, true_or, or_true, true_and, and_true, false_or, or_false, false_and, and_false, not_true, not_false_iff, if_true, if_false, eq_self, Bool.false_eq_true, cl2_id, Bool.not_true, Bool.not_false]
theorem tkn_0 (h : LC m N b a n κ) {i : Nat} (hi : i < 32) (hb : isB b a n κ i = false) : flC (fX6_takeName i m) m 1 a := by
  have e : fX6_takeName i m = some (nI 0, flM m 1 a) := by
    unfold fX6_takeName
    simp (disch := omega) only [isn_e h hi, hb, fail_e h.2.1.1, cl2_so, cl1_so, ck_tr, zl_0, zl_1, zl_2, zl_3, zl_4, zl_5, zl_6, zl_7, zl_8, zl_9, zl_10, zl_11, zl_12, zl_15, zl_16, zl_20, zl_24, zl_25, zl_30, zl_31, zl_32, zl_33, zl_44, zl_48, zl_50, zl_57, zl_59, zl_60, zl_61, zl_62, zl_63, zl_64, zl_68, zl_97, zl_99, zl_100, zl_104, zl_108, zl_114, zl_120, zl_122, zl_126, zl_132, zl_180, zl_181, zl_186, zl_255, zl_900, zl_930, zl_1000, zl_1000000, nI_add, pk_mul, zs_sub, zs_lt, zs_le, zs_eq, zs_inb, zs_cl, zm_eq, zm_eq2, zm_lt, zm_le, mz_lt, mz_le, mm_eq, zs_bit, zs_or1, zs_div, zs_rem, ck_pos, if_pos, if_neg, true_or, or_true, true_and, and_true, false_or, or_false, false_and, and_false, not_true, not_false_iff, if_true, if_false, eq_self, Bool.false_eq_true, cl2_id, Bool.not_true, Bool.not_false]
  rw [e]
  exact flC_fl
theorem to_1 (h : LC m N b a n κ) (hT : Tk N b (a + n) a' n' κ') {i i2 : Nat} (hi : i < 32) (hi2 : i2 < 32) {q : Nat} (hq : q = if isB b a n κ i then 0 else 1) (hb : isB b a n κ i = true ∨ isB b a n κ i2 = true) : ∃ m', fX6_takeOneOf i i2 m = some (nI 1, m') ∧ LC m' N b a' n' κ' ∧ Gc m m' ∧ m'.1 1 7 = nI q := by
  have h' : LC (setI m 1 7 (nI q)) N b a n κ := h.gc ((Gc.rf m).set _ (by omega)) ⟨(sI_nj (by decide)).trans h.2.1.1, (sI_nj (by decide)).trans h.2.1.2.1, (sI_nj (by decide)).trans h.2.1.2.2⟩ h.2.2
  obtain ⟨m', e, g1, g2, g3⟩ := step_e h'.1 h'.2.1.1 h'.2.1.2.1 rfl h.bd.1 hT
  refine ⟨m', ?_, h'.gc g2 g1 hT.to, ((Gc.rf m).set _ (by omega)).tr g2, g3.trans (sI_eq _ _ _ _)⟩
  unfold fX6_takeOneOf fX6_takeOneOf_22 fX6_takeOneOf_36
  cases hc : isB b a n κ i
  · rw [hc] at hb hq
    have hb2 : isB b a n κ i2 = true := by simpa using hb
    have hq' : q = 1 := hq
    subst hq'
    simp (disch := omega) only [isn_e h hi, isn_e h hi2, hc, hb2, e, cl2_so, cl1_so, ck_tr, zl_0, zl_1, zl_2, zl_3, zl_4, zl_5, zl_6, zl_7, zl_8, zl_9, zl_10, zl_11, zl_12, zl_15, zl_16, zl_20, zl_24, zl_25, zl_30, zl_31, zl_32, zl_33, zl_44, zl_48, zl_50, zl_57, zl_59, zl_60, zl_61, zl_62, zl_63, zl_64, zl_68, zl_97, zl_99, zl_100, zl_104, zl_108, zl_114, zl_120, zl_122, zl_126, zl_132, zl_180, zl_181, zl_186, zl_255, zl_900, zl_930, zl_1000, zl_1000000, nI_add, pk_mul, zs_sub, zs_lt, zs_le, zs_eq, zs_inb, zs_cl, zm_eq, zm_eq2, zm_lt, zm_le, mz_lt, mz_le, mm_eq, zs_bit, zs_or1, zs_div, zs_rem, ck_pos, if_pos, if_neg, true_or, or_true, true_and, and_true, false_or, or_false, false_and, and_false, not_true, not_false_iff, if_true, if_false, eq_self, Bool.false_eq_true, cl2_id, Bool.not_true, Bool.not_false]
  · rw [hc] at hq
    have hq' : q = 0 := hq
    subst hq'
    simp (disch := omega) only [isn_e h hi, hc, e, cl2_so, cl1_so, ck_tr, zl_0, zl_1, zl_2, zl_3, zl_4, zl_5, zl_6, zl_7, zl_8, zl_9, zl_10, zl_11, zl_12, zl_15, zl_16, zl_20, zl_24, zl_25, zl_30, zl_31, zl_32, zl_33, zl_44, zl_48, zl_50, zl_57, zl_59, zl_60, zl_61, zl_62, zl_63, zl_64, zl_68, zl_97, zl_99, zl_100, zl_104, zl_108, zl_114, zl_120, zl_122, zl_126, zl_132, zl_180, zl_181, zl_186, zl_255, zl_900, zl_930, zl_1000, zl_1000000, nI_add, pk_mul, zs_sub, zs_lt, zs_le, zs_eq, zs_inb, zs_cl, zm_eq, zm_eq2, zm_lt, zm_le, mz_lt, mz_le, mm_eq, zs_bit, zs_or1, zs_div, zs_rem, ck_pos, if_pos, if_neg, true_or, or_true, true_and, and_true, false_or, or_false, false_and, and_false, not_true, not_false_iff, if_true, if_false, eq_self, Bool.false_eq_true, cl2_id, Bool.not_true, Bool.not_false]
theorem to_0 (h : LC m N b a n κ) {i i2 : Nat} (hi : i < 32) (hi2 : i2 < 32) (hb : isB b a n κ i = false) (hb2 : isB b a n κ i2 = false) : flC (fX6_takeOneOf i i2 m) m 1 a := by
  have e : fX6_takeOneOf i i2 m = some (nI 0, flM m 1 a) := by
    unfold fX6_takeOneOf
    simp (disch := omega) only [isn_e h hi, isn_e h hi2, hb, hb2, fail_e h.2.1.1, cl2_so, cl1_so, ck_tr, zl_0, zl_1, zl_2, zl_3, zl_4, zl_5, zl_6, zl_7, zl_8, zl_9, zl_10, zl_11, zl_12, zl_15, zl_16, zl_20, zl_24, zl_25, zl_30, zl_31, zl_32, zl_33, zl_44, zl_48, zl_50, zl_57, zl_59, zl_60, zl_61, zl_62, zl_63, zl_64, zl_68, zl_97, zl_99, zl_100, zl_104, zl_108, zl_114, zl_120, zl_122, zl_126, zl_132, zl_180, zl_181, zl_186, zl_255, zl_900, zl_930, zl_1000, zl_1000000, nI_add, pk_mul, zs_sub, zs_lt, zs_le, zs_eq, zs_inb, zs_cl, zm_eq, zm_eq2, zm_lt, zm_le, mz_lt, mz_le, mm_eq, zs_bit, zs_or1, zs_div, zs_rem, ck_pos, if_pos, if_neg, true_or, or_true, true_and, and_true, false_or, or_false, false_and, and_false, not_true, not_false_iff, if_true, if_false, eq_self, Bool.false_eq_true, cl2_id, Bool.not_true, Bool.not_false]
  rw [e]
  exact flC_fl
theorem iw21 {lo hi : Nat} (hl : lo < 1000) (hh : hi < 1000) (hk : κ = 2) : ∀ j q f (m : Me), LC m N b a n κ → m.1 1 7 = nI (wv b a q) → q + j = n → j < f → ∃ m', LC m' N b a n κ ∧ Gc m m' ∧ m'.1 1 7 = nI (wv b a n) ∧ fX6_isWholeWithin_21 f (nI lo) (nI hi) (nI q) m = if lo ≤ wv b a n ∧ wv b a n ≤ hi then some (nI 1, m') else some (nI 0, flM m' 4 a) := by
  intro j
  induction j with
  | zero =>
    intro q f m h h7 hq hf
    obtain ⟨f, rfl⟩ : ∃ n', f = n' + 1 := ⟨f - 1, by omega⟩
    obtain rfl : q = n := by omega
    obtain ⟨hX, ⟨t5, t6, t4⟩, o1, o2, o3, o4, o5, o6⟩ := id h
    have hN := hX.1
    have hw : wv b a q < 1000 := Nat.lt_of_lt_of_le (wv_lt q (o6 hk).2) (Nat.le_trans (Nat.pow_le_pow_right (n := 10) (j := 3) (by decide) (o6 hk).1) (by decide))
    refine ⟨m, h, Gc.rf m, h7, ?_⟩
    rw [fX6_isWholeWithin_21]
    unfold fX6_isWholeWithin_77 fX6_isWholeWithin_85 fX6_isWholeWithin_90
    by_cases q1 : wv b a q < lo
    · simp (disch := omega) only [t6, h7, q1, fail_e t5, cl2_so, cl1_so, ck_tr, zl_0, zl_1, zl_2, zl_3, zl_4, zl_5, zl_6, zl_7, zl_8, zl_9, zl_10, zl_11, zl_12, zl_15, zl_16, zl_20, zl_24, zl_25, zl_30, zl_31, zl_32, zl_33, zl_44, zl_48, zl_50, zl_57, zl_59, zl_60, zl_61, zl_62, zl_63, zl_64, zl_68, zl_97, zl_99, zl_100, zl_104, zl_108, zl_114, zl_120, zl_122, zl_126, zl_132, zl_180, zl_181, zl_186, zl_255, zl_900, zl_930, zl_1000, zl_1000000, nI_add, pk_mul, zs_sub, zs_lt, zs_le, zs_eq, zs_inb, zs_cl, zm_eq, zm_eq2, zm_lt, zm_le, mz_lt, mz_le, mm_eq, zs_bit, zs_or1, zs_div, zs_rem, ck_pos, if_pos, if_neg, true_or, or_true, true_and, and_true, false_or, or_false, false_and, and_false, not_true, not_false_iff, if_true, if_false, eq_self, Bool.false_eq_true, cl2_id, Bool.not_true, Bool.not_false]
    · by_cases q2 : wv b a q ≤ hi
      · simp (disch := omega) only [t6, h7, q1, q2, cl2_so, cl1_so, ck_tr, zl_0, zl_1, zl_2, zl_3, zl_4, zl_5, zl_6, zl_7, zl_8, zl_9, zl_10, zl_11, zl_12, zl_15, zl_16, zl_20, zl_24, zl_25, zl_30, zl_31, zl_32, zl_33, zl_44, zl_48, zl_50, zl_57, zl_59, zl_60, zl_61, zl_62, zl_63, zl_64, zl_68, zl_97, zl_99, zl_100, zl_104, zl_108, zl_114, zl_120, zl_122, zl_126, zl_132, zl_180, zl_181, zl_186, zl_255, zl_900, zl_930, zl_1000, zl_1000000, nI_add, pk_mul, zs_sub, zs_lt, zs_le, zs_eq, zs_inb, zs_cl, zm_eq, zm_eq2, zm_lt, zm_le, mz_lt, mz_le, mm_eq, zs_bit, zs_or1, zs_div, zs_rem, ck_pos, if_pos, if_neg, true_or, or_true, true_and, and_true, false_or, or_false, false_and, and_false, not_true, not_false_iff, if_true, if_false, eq_self, Bool.false_eq_true, cl2_id, Bool.not_true, Bool.not_false]
      · simp (disch := omega) only [t6, h7, q1, q2, fail_e t5, cl2_so, cl1_so, ck_tr, zl_0, zl_1, zl_2, zl_3, zl_4, zl_5, zl_6, zl_7, zl_8, zl_9, zl_10, zl_11, zl_12, zl_15, zl_16, zl_20, zl_24, zl_25, zl_30, zl_31, zl_32, zl_33, zl_44, zl_48, zl_50, zl_57, zl_59, zl_60, zl_61, zl_62, zl_63, zl_64, zl_68, zl_97, zl_99, zl_100, zl_104, zl_108, zl_114, zl_120, zl_122, zl_126, zl_132, zl_180, zl_181, zl_186, zl_255, zl_900, zl_930, zl_1000, zl_1000000, nI_add, pk_mul, zs_sub, zs_lt, zs_le, zs_eq, zs_inb, zs_cl, zm_eq, zm_eq2, zm_lt, zm_le, mz_lt, mz_le, mm_eq, zs_bit, zs_or1, zs_div, zs_rem, ck_pos, if_pos, if_neg, true_or, or_true, true_and, and_true, false_or, or_false, false_and, and_false, not_true, not_false_iff, if_true, if_false, eq_self, Bool.false_eq_true, cl2_id, Bool.not_true, Bool.not_false]
  | succ j ih =>
    intro q f m h h7 hq hf
    obtain ⟨f, rfl⟩ : ∃ n', f = n' + 1 := ⟨f - 1, by omega⟩
    obtain ⟨hX, ⟨t5, t6, t4⟩, o1, o2, o3, o4, o5, o6⟩ := id h
    have hN := hX.1
    have hn3 := (o6 hk).1
    obtain ⟨d1, d2⟩ := (o6 hk).2 q (by omega)
    have hw : wv b a q < 1000 := Nat.lt_of_lt_of_le (wv_lt q (fun k hk' => (o6 hk).2 k (by omega))) (Nat.le_trans (Nat.pow_le_pow_right (n := 10) (j := 3) (by decide) (by omega)) (by decide))
    have hx := (hX.2.2 (a + q) (by omega)).2
    rw [by8_sm (by omega)] at hx
    have ew : wv b a (q + 1) = 10 * wv b a q + b (a + q) - 48 := by rw [wv]; omega
    have h' : LC (setI m 1 7 (nI (10 * wv b a q + b (a + q) - 48))) N b a n κ := h.gc ((Gc.rf m).set _ (by omega)) ⟨(sI_nj (by decide)).trans t5, (sI_nj (by decide)).trans t6, (sI_nj (by decide)).trans t4⟩ h.2.2
    obtain ⟨m', i1, i2, i3, i4⟩ := ih (q + 1) f _ h' (by rw [sI_eq, ew]) (by omega) (by omega)
    refine ⟨m', i1, ((Gc.rf m).set _ (by omega)).tr i2, i3, ?_⟩
    rw [← i4, fX6_isWholeWithin_21]
    simp (disch := omega) only [t5, t6, h7, hx, cl2_so, cl1_so, ck_tr, zl_0, zl_1, zl_2, zl_3, zl_4, zl_5, zl_6, zl_7, zl_8, zl_9, zl_10, zl_11, zl_12, zl_15, zl_16, zl_20, zl_24, zl_25, zl_30, zl_31, zl_32, zl_33, zl_44, zl_48, zl_50, zl_57, zl_59, zl_60, zl_61, zl_62, zl_63, zl_64, zl_68, zl_97, zl_99, zl_100, zl_104, zl_108, zl_114, zl_120, zl_122, zl_126, zl_132, zl_180, zl_181, zl_186, zl_255, zl_900, zl_930, zl_1000, zl_1000000, nI_add, pk_mul, zs_sub, zs_lt, zs_le, zs_eq, zs_inb, zs_cl, zm_eq, zm_eq2, zm_lt, zm_le, mz_lt, mz_le, mm_eq, zs_bit, zs_or1, zs_div, zs_rem, ck_pos, if_pos, if_neg, true_or, or_true, true_and, and_true, false_or, or_false, false_and, and_false, not_true, not_false_iff, if_true, if_false, eq_self, Bool.false_eq_true, cl2_id, Bool.not_true, Bool.not_false]
theorem iw_e {lo hi : Nat} (hl : lo < 1000) (hh : hi < 1000) (hk : κ = 2) (h : LC m N b a n κ) : ∃ m', LC m' N b a n κ ∧ Gc m m' ∧ m'.1 1 7 = nI (wv b a n) ∧ fX6_isWholeWithin (nI lo) (nI hi) m = if lo ≤ wv b a n ∧ wv b a n ≤ hi then some (nI 1, m') else some (nI 0, flM m' 4 a) := by
  obtain ⟨hX, ⟨t5, t6, t4⟩, o1, o2, o3, o4, o5, o6⟩ := id h
  have hn3 := (o6 hk).1
  have h' : LC (setI m 1 7 (nI 0)) N b a n κ := h.gc ((Gc.rf m).set _ (by omega)) ⟨(sI_nj (by decide)).trans t5, (sI_nj (by decide)).trans t6, (sI_nj (by decide)).trans t4⟩ h.2.2
  obtain ⟨m', i1, i2, i3, i4⟩ := iw21 hl hh hk n 0 FU _ h' (sI_eq _ _ _ _) (by omega) (FU_pos (by omega))
  refine ⟨m', i1, ((Gc.rf m).set _ (by omega)).tr i2, i3, ?_⟩
  rw [← i4]
  unfold fX6_isWholeWithin
  simp (disch := omega) only [t4, hk, cl2_so, cl1_so, ck_tr, zl_0, zl_1, zl_2, zl_3, zl_4, zl_5, zl_6, zl_7, zl_8, zl_9, zl_10, zl_11, zl_12, zl_15, zl_16, zl_20, zl_24, zl_25, zl_30, zl_31, zl_32, zl_33, zl_44, zl_48, zl_50, zl_57, zl_59, zl_60, zl_61, zl_62, zl_63, zl_64, zl_68, zl_97, zl_99, zl_100, zl_104, zl_108, zl_114, zl_120, zl_122, zl_126, zl_132, zl_180, zl_181, zl_186, zl_255, zl_900, zl_930, zl_1000, zl_1000000, nI_add, pk_mul, zs_sub, zs_lt, zs_le, zs_eq, zs_inb, zs_cl, zm_eq, zm_eq2, zm_lt, zm_le, mz_lt, mz_le, mm_eq, zs_bit, zs_or1, zs_div, zs_rem, ck_pos, if_pos, if_neg, true_or, or_true, true_and, and_true, false_or, or_false, false_and, and_false, not_true, not_false_iff, if_true, if_false, eq_self, Bool.false_eq_true, cl2_id, Bool.not_true, Bool.not_false]
theorem iw_n (h : LC m N b a n κ) (hk : κ ≠ 2) (x y : Int32) : flC (fX6_isWholeWithin x y m) m 1 a := by
  obtain ⟨hX, ⟨t5, t6, t4⟩, o1, o2, o3, o4, o5, o6⟩ := id h
  have e : fX6_isWholeWithin x y m = some (nI 0, flM m 1 a) := by
    unfold fX6_isWholeWithin
    simp (disch := omega) only [t4, hk, fail_e t5, cl2_so, cl1_so, ck_tr, zl_0, zl_1, zl_2, zl_3, zl_4, zl_5, zl_6, zl_7, zl_8, zl_9, zl_10, zl_11, zl_12, zl_15, zl_16, zl_20, zl_24, zl_25, zl_30, zl_31, zl_32, zl_33, zl_44, zl_48, zl_50, zl_57, zl_59, zl_60, zl_61, zl_62, zl_63, zl_64, zl_68, zl_97, zl_99, zl_100, zl_104, zl_108, zl_114, zl_120, zl_122, zl_126, zl_132, zl_180, zl_181, zl_186, zl_255, zl_900, zl_930, zl_1000, zl_1000000, nI_add, pk_mul, zs_sub, zs_lt, zs_le, zs_eq, zs_inb, zs_cl, zm_eq, zm_eq2, zm_lt, zm_le, mz_lt, mz_le, mm_eq, zs_bit, zs_or1, zs_div, zs_rem, ck_pos, if_pos, if_neg, true_or, or_true, true_and, and_true, false_or, or_false, false_and, and_false, not_true, not_false_iff, if_true, if_false, eq_self, Bool.false_eq_true, cl2_id, Bool.not_true, Bool.not_false]
  rw [e]
  exact flC_fl
theorem tw_1 (h : LC m N b a n κ) (hT : Tk N b (a + n) a' n' κ') {lo hi : Nat} (hl : lo < 1000) (hh : hi < 1000) (hk : κ = 2) (hv : lo ≤ wv b a n ∧ wv b a n ≤ hi) : ∃ m', fX6_takeWhole (nI lo) (nI hi) m = some (nI 1, m') ∧ LC m' N b a' n' κ' ∧ Gc m m' ∧ m'.1 1 7 = nI (wv b a n) := by
  obtain ⟨m1, i1, i2, i3, i4⟩ := iw_e hl hh hk h
  rw [if_pos hv] at i4
  obtain ⟨m', e, g1, g2, g3⟩ := step_e i1.1 i1.2.1.1 i1.2.1.2.1 rfl h.bd.1 hT
  refine ⟨m', ?_, i1.gc g2 g1 hT.to, i2.tr g2, g3.trans i3⟩
  unfold fX6_takeWhole
  simp (disch := omega) only [i4, e, cl2_so, cl1_so, ck_tr, zl_0, zl_1, zl_2, zl_3, zl_4, zl_5, zl_6, zl_7, zl_8, zl_9, zl_10, zl_11, zl_12, zl_15, zl_16, zl_20, zl_24, zl_25, zl_30, zl_31, zl_32, zl_33, zl_44, zl_48, zl_50, zl_57, zl_59, zl_60, zl_61, zl_62, zl_63, zl_64, zl_68, zl_97, zl_99, zl_100, zl_104, zl_108, zl_114, zl_120, zl_122, zl_126, zl_132, zl_180, zl_181, zl_186, zl_255, zl_900, zl_930, zl_1000, zl_1000000, nI_add, pk_mul, zs_sub, zs_lt, zs_le, zs_eq, zs_inb, zs_cl, zm_eq, zm_eq2, zm_lt, zm_le, mz_lt, mz_le, mm_eq, zs_bit, zs_or1, zs_div, zs_rem, ck_pos, if_pos, if_neg, true_or, or_true, true_and, and_true, false_or, or_false, false_and, and_false, not_true, not_false_iff, if_true, if_false, eq_self, Bool.false_eq_true, cl2_id, Bool.not_true, Bool.not_false]
theorem tw_0 (h : LC m N b a n κ) {lo hi : Nat} (hl : lo < 1000) (hh : hi < 1000) (hk : κ = 2) (hv : ¬ (lo ≤ wv b a n ∧ wv b a n ≤ hi)) : flC (fX6_takeWhole (nI lo) (nI hi) m) m 4 a := by
  obtain ⟨m1, i1, i2, i3, i4⟩ := iw_e hl hh hk h
  rw [if_neg hv] at i4
  have e : fX6_takeWhole (nI lo) (nI hi) m = some (nI 0, flM m1 4 a) := by
    unfold fX6_takeWhole
    simp (disch := omega) only [i4, cl2_so, cl1_so, ck_tr, zl_0, zl_1, zl_2, zl_3, zl_4, zl_5, zl_6, zl_7, zl_8, zl_9, zl_10, zl_11, zl_12, zl_15, zl_16, zl_20, zl_24, zl_25, zl_30, zl_31, zl_32, zl_33, zl_44, zl_48, zl_50, zl_57, zl_59, zl_60, zl_61, zl_62, zl_63, zl_64, zl_68, zl_97, zl_99, zl_100, zl_104, zl_108, zl_114, zl_120, zl_122, zl_126, zl_132, zl_180, zl_181, zl_186, zl_255, zl_900, zl_930, zl_1000, zl_1000000, nI_add, pk_mul, zs_sub, zs_lt, zs_le, zs_eq, zs_inb, zs_cl, zm_eq, zm_eq2, zm_lt, zm_le, mz_lt, mz_le, mm_eq, zs_bit, zs_or1, zs_div, zs_rem, ck_pos, if_pos, if_neg, true_or, or_true, true_and, and_true, false_or, or_false, false_and, and_false, not_true, not_false_iff, if_true, if_false, eq_self, Bool.false_eq_true, cl2_id, Bool.not_true, Bool.not_false]
  rw [e]
  exact flC_fl.gc i2
theorem tw_n (h : LC m N b a n κ) (hk : κ ≠ 2) (x y : Int32) : flC (fX6_takeWhole x y m) m 1 a := by
  obtain ⟨m', e, g⟩ := iw_n h hk x y
  refine ⟨m', ?_, g⟩
  unfold fX6_takeWhole
  simp (disch := omega) only [e, cl2_so, cl1_so, ck_tr, zl_0, zl_1, zl_2, zl_3, zl_4, zl_5, zl_6, zl_7, zl_8, zl_9, zl_10, zl_11, zl_12, zl_15, zl_16, zl_20, zl_24, zl_25, zl_30, zl_31, zl_32, zl_33, zl_44, zl_48, zl_50, zl_57, zl_59, zl_60, zl_61, zl_62, zl_63, zl_64, zl_68, zl_97, zl_99, zl_100, zl_104, zl_108, zl_114, zl_120, zl_122, zl_126, zl_132, zl_180, zl_181, zl_186, zl_255, zl_900, zl_930, zl_1000, zl_1000000, nI_add, pk_mul, zs_sub, zs_lt, zs_le, zs_eq, zs_inb, zs_cl, zm_eq, zm_eq2, zm_lt, zm_le, mz_lt, mz_le, mm_eq, zs_bit, zs_or1, zs_div, zs_rem, ck_pos, if_pos, if_neg, true_or, or_true, true_and, and_true, false_or, or_false, false_and, and_false, not_true, not_false_iff, if_true, if_false, eq_self, Bool.false_eq_true, cl2_id, Bool.not_true, Bool.not_false]
/-- a word's letters -/
def wL (b : Nat → Nat) (a n : Nat) : List Nat := (List.range n).map (fun k => b (a + k) - 97)
theorem wL_len (b : Nat → Nat) (a n : Nat) : (wL b a n).length = n := by simp [wL]
theorem wL_at {b : Nat → Nat} {a n k : Nat} (h : k < n) : (wL b a n).getD k 0 = b (a + k) - 97 := by
  unfold wL
  rw [List.getD_eq_getElem?_getD, List.getElem?_map, List.getElem?_range h]
  rfl
theorem cw32 (hk : κ = 1) {y : Nat} (hy : y ≠ 1 ∧ y + 1 ≠ 1 ∧ y ≠ 2 ∧ y + 1 ≠ 2) : ∀ j q f (m : Me), LC m N b a n κ → m.1 y 1 = nI n → (∀ k, k < q → m.1 (y + 1) k = nI (b (a + k) - 97)) → q + j = n → j < f → ∃ m', fX6_copyWord_32 f y (nI q) m = some (nI 1, m') ∧ m'.1 y 1 = nI n ∧ (∀ k, k < n → m'.1 (y + 1) k = nI (b (a + k) - 97)) ∧ (∀ x j, x ≠ y + 1 → m'.1 x j = m.1 x j) ∧ m'.2 = m.2 := by
  intro j
  induction j with
  | zero =>
    intro q f m h h1 hl hq hf
    obtain ⟨f, rfl⟩ : ∃ n', f = n' + 1 := ⟨f - 1, by omega⟩
    obtain rfl : q = n := by omega
    have hb := h.bd
    refine ⟨m, ?_, h1, hl, fun _ _ _ => rfl, rfl⟩
    rw [fX6_copyWord_32]
    simp (disch := omega) only [h1, cl2_so, cl1_so, ck_tr, zl_0, zl_1, zl_2, zl_3, zl_4, zl_5, zl_6, zl_7, zl_8, zl_9, zl_10, zl_11, zl_12, zl_15, zl_16, zl_20, zl_24, zl_25, zl_30, zl_31, zl_32, zl_33, zl_44, zl_48, zl_50, zl_57, zl_59, zl_60, zl_61, zl_62, zl_63, zl_64, zl_68, zl_97, zl_99, zl_100, zl_104, zl_108, zl_114, zl_120, zl_122, zl_126, zl_132, zl_180, zl_181, zl_186, zl_255, zl_900, zl_930, zl_1000, zl_1000000, nI_add, pk_mul, zs_sub, zs_lt, zs_le, zs_eq, zs_inb, zs_cl, zm_eq, zm_eq2, zm_lt, zm_le, mz_lt, mz_le, mm_eq, zs_bit, zs_or1, zs_div, zs_rem, ck_pos, if_pos, if_neg, true_or, or_true, true_and, and_true, false_or, or_false, false_and, and_false, not_true, not_false_iff, if_true, if_false, eq_self, Bool.false_eq_true, cl2_id, Bool.not_true, Bool.not_false]
  | succ j ih =>
    intro q f m h h1 hl hq hf
    obtain ⟨f, rfl⟩ : ∃ n', f = n' + 1 := ⟨f - 1, by omega⟩
    obtain ⟨hX, ⟨t5, t6, t4⟩, o1, o2, o3, o4, o5, o6⟩ := id h
    have hN := hX.1
    have hn8 := (o5 hk).1
    obtain ⟨d1, d2⟩ := (o5 hk).2 q (by omega)
    have hx := (hX.2.2 (a + q) (by omega)).2
    rw [by8_sm (by omega)] at hx
    have h' : LC (setI m (y + 1) q (nI (b (a + q) - 97))) N b a n κ := ⟨⟨hX.1, (sI_na (by omega)).trans hX.2.1, fun k hk => ⟨(hX.2.2 k hk).1, (sI_na (by omega)).trans (hX.2.2 k hk).2⟩⟩, ⟨(sI_na (by omega)).trans t5, (sI_na (by omega)).trans t6, (sI_na (by omega)).trans t4⟩, h.2.2⟩
    obtain ⟨m', i1, i2, i3, i4, i5⟩ := ih (q + 1) f _ h' ((sI_na (by omega)).trans h1) (fun k hk => by
      by_cases z : k = q
      · subst z
        exact sI_eq _ _ _ _
      · rw [sI_nj z]
        exact hl k (by omega)) (by omega) (by omega)
    refine ⟨m', ?_, i2, i3, fun x j z => (i4 x j z).trans (sI_na z), i5⟩
    rw [fX6_copyWord_32]
    unfold fX6_letterAt
    simp (disch := omega) only [h1, t5, hx, cl2_so, cl1_so, ck_tr, zl_0, zl_1, zl_2, zl_3, zl_4, zl_5, zl_6, zl_7, zl_8, zl_9, zl_10, zl_11, zl_12, zl_15, zl_16, zl_20, zl_24, zl_25, zl_30, zl_31, zl_32, zl_33, zl_44, zl_48, zl_50, zl_57, zl_59, zl_60, zl_61, zl_62, zl_63, zl_64, zl_68, zl_97, zl_99, zl_100, zl_104, zl_108, zl_114, zl_120, zl_122, zl_126, zl_132, zl_180, zl_181, zl_186, zl_255, zl_900, zl_930, zl_1000, zl_1000000, nI_add, pk_mul, zs_sub, zs_lt, zs_le, zs_eq, zs_inb, zs_cl, zm_eq, zm_eq2, zm_lt, zm_le, mz_lt, mz_le, mm_eq, zs_bit, zs_or1, zs_div, zs_rem, ck_pos, if_pos, if_neg, true_or, or_true, true_and, and_true, false_or, or_false, false_and, and_false, not_true, not_false_iff, if_true, if_false, eq_self, Bool.false_eq_true, cl2_id, Bool.not_true, Bool.not_false]
    exact i1
theorem cw_1 (h : LC m N b a n κ) (hk : κ = 1) {y : Nat} (hy : y ≠ 1 ∧ y + 1 ≠ 1 ∧ y ≠ 2 ∧ y + 1 ≠ 2) : ∃ m', fX6_copyWord y m = some (nI 1, m') ∧ SY m' y (wL b a n) ∧ (∀ x j, ¬ (x = y ∧ j = 1) → x ≠ y + 1 → m'.1 x j = m.1 x j) ∧ m'.2 = m.2 ∧ LC m' N b a n κ := by
  obtain ⟨hX, ⟨t5, t6, t4⟩, o1, o2, o3, o4, o5, o6⟩ := id h
  have hn8 := (o5 hk).1
  have h' : LC (setI m y 1 (nI n)) N b a n κ := ⟨⟨hX.1, (sI_na (by omega)).trans hX.2.1, fun k hk => ⟨(hX.2.2 k hk).1, (sI_na (by omega)).trans (hX.2.2 k hk).2⟩⟩, ⟨(sI_na (by omega)).trans t5, (sI_na (by omega)).trans t6, (sI_na (by omega)).trans t4⟩, h.2.2⟩
  obtain ⟨m', i1, i2, i3, i4, i5⟩ := cw32 hk hy n 0 FU _ h' (sI_eq _ _ _ _) (fun k hk => absurd hk (by omega)) (by omega) (FU_pos (by omega))
  have fr : ∀ x j, ¬ (x = y ∧ j = 1) → x ≠ y + 1 → m'.1 x j = m.1 x j := fun x j z1 z2 => by rw [i4 x j z2, sI_1, if_neg z1]
  refine ⟨m', ?_, ⟨by rw [wL_len]; exact i2, fun k hk => ?_⟩, fr, i5, ⟨⟨hX.1, (fr 1 1 (by omega) (by omega)).trans hX.2.1, fun k hk => ⟨(hX.2.2 k hk).1, (fr 2 k (by omega) (by omega)).trans (hX.2.2 k hk).2⟩⟩, ⟨(fr 1 5 (by omega) (by omega)).trans t5, (fr 1 6 (by omega) (by omega)).trans t6, (fr 1 4 (by omega) (by omega)).trans t4⟩, h.2.2⟩⟩
  · unfold fX6_copyWord
    have hm : (if nI 8 < nI n then nI 8 else nI n) = nI n := by
      rw [if_neg]
      rw [zs_lt (by omega) (by omega)]
      omega
    simp (disch := omega) only [t4, hk, t6, hm, cl2_so, cl1_so, ck_tr, zl_0, zl_1, zl_2, zl_3, zl_4, zl_5, zl_6, zl_7, zl_8, zl_9, zl_10, zl_11, zl_12, zl_15, zl_16, zl_20, zl_24, zl_25, zl_30, zl_31, zl_32, zl_33, zl_44, zl_48, zl_50, zl_57, zl_59, zl_60, zl_61, zl_62, zl_63, zl_64, zl_68, zl_97, zl_99, zl_100, zl_104, zl_108, zl_114, zl_120, zl_122, zl_126, zl_132, zl_180, zl_181, zl_186, zl_255, zl_900, zl_930, zl_1000, zl_1000000, nI_add, pk_mul, zs_sub, zs_lt, zs_le, zs_eq, zs_inb, zs_cl, zm_eq, zm_eq2, zm_lt, zm_le, mz_lt, mz_le, mm_eq, zs_bit, zs_or1, zs_div, zs_rem, ck_pos, if_pos, if_neg, true_or, or_true, true_and, and_true, false_or, or_false, false_and, and_false, not_true, not_false_iff, if_true, if_false, eq_self, Bool.false_eq_true, cl2_id, Bool.not_true, Bool.not_false]
    exact i1
  · rw [wL_len] at hk
    rw [wL_at hk]
    exact i3 k hk
theorem cw_0 (h : LC m N b a n κ) (hk : κ ≠ 1) (y : Nat) : flC (fX6_copyWord y m) m 1 a := by
  obtain ⟨hX, ⟨t5, t6, t4⟩, o1, o2, o3, o4, o5, o6⟩ := id h
  have e : fX6_copyWord y m = some (nI 0, flM m 1 a) := by
    unfold fX6_copyWord
    simp (disch := omega) only [t4, hk, fail_e t5, cl2_so, cl1_so, ck_tr, zl_0, zl_1, zl_2, zl_3, zl_4, zl_5, zl_6, zl_7, zl_8, zl_9, zl_10, zl_11, zl_12, zl_15, zl_16, zl_20, zl_24, zl_25, zl_30, zl_31, zl_32, zl_33, zl_44, zl_48, zl_50, zl_57, zl_59, zl_60, zl_61, zl_62, zl_63, zl_64, zl_68, zl_97, zl_99, zl_100, zl_104, zl_108, zl_114, zl_120, zl_122, zl_126, zl_132, zl_180, zl_181, zl_186, zl_255, zl_900, zl_930, zl_1000, zl_1000000, nI_add, pk_mul, zs_sub, zs_lt, zs_le, zs_eq, zs_inb, zs_cl, zm_eq, zm_eq2, zm_lt, zm_le, mz_lt, mz_le, mm_eq, zs_bit, zs_or1, zs_div, zs_rem, ck_pos, if_pos, if_neg, true_or, or_true, true_and, and_true, false_or, or_false, false_and, and_false, not_true, not_false_iff, if_true, if_false, eq_self, Bool.false_eq_true, cl2_id, Bool.not_true, Bool.not_false]
  rw [e]
  exact flC_fl
end UNITC
