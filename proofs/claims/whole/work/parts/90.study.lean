/-! what is sure, as the class learns it -/
section STUDY
variable {m : Me} {t q : Nat} {r s : Nat → Nat} {U : Nat → Option Nat}
def SU (m : Me) (r : Nat → Nat) (U : Nat → Option Nat) : Prop := (∀ side rib c, side ≤ 1 → rib < r 0 → c < r 1 → m.1 95 (side * 30 + (r 1 * rib + c)) = uI (U (30 * side + (3 * rib + c)))) ∧ (∀ k, k < 60 → (¬ ∃ side rib c, side ≤ 1 ∧ rib < r 0 ∧ c < r 1 ∧ k = side * 30 + (r 1 * rib + c)) → m.1 95 k = -nI 3)
theorem SU.cg {m' : Me} (h : SU m r U) (e : ∀ j, m'.1 95 j = m.1 95 j) : SU m' r U := ⟨fun side rib c x y z => (e _).trans (h.1 side rib c x y z), fun k hk hn => (e _).trans (h.2 k hk hn)⟩
theorem suLet (hS : SU m r U) (hf : z_fan r) {side rib c : Nat} (hs : side ≤ 1) (hr : rib < r 0) (hc : c < r 1) : fX9_sureLetter (nI side) (nI (r 1 * rib + c)) m = some (uI (U (30 * side + (3 * rib + c))), m) := by
  have hx := ix_lt hf hr hc
  have e := hS.1 side rib c hs hr hc
  unfold fX9_sureLetter fX9_sureLetter_19 fX9_sureLetter_30
  simp (disch := omega) only [ci_e, e, cl2_so, cl1_so, ck_tr, zl_0, zl_1, zl_2, zl_3, zl_4, zl_5, zl_6, zl_7, zl_8, zl_9, zl_10, zl_11, zl_12, zl_15, zl_16, zl_20, zl_24, zl_25, zl_30, zl_31, zl_32, zl_33, zl_44, zl_48, zl_50, zl_57, zl_59, zl_60, zl_61, zl_62, zl_63, zl_64, zl_68, zl_97, zl_99, zl_100, zl_104, zl_108, zl_114, zl_120, zl_122, zl_126, zl_132, zl_180, zl_181, zl_186, zl_255, zl_900, zl_930, zl_1000, zl_1000000, nI_add, pk_mul, zs_sub, zs_lt, zs_le, zs_eq, zs_inb, zs_cl, zm_eq, zm_eq2, zm_lt, zm_le, mz_lt, mz_le, mm_eq, zs_bit, zs_or1, zs_div, zs_rem, ck_pos, if_pos, if_neg, true_or, or_true, true_and, and_true, false_or, or_false, false_and, and_false, not_true, not_false_iff, if_true, if_false, eq_self, Bool.false_eq_true, cl2_id, Bool.not_true, Bool.not_false]
theorem SU.upd (hS : SU m r U) (hf : z_fan r) {side rib c v : Nat} (hs : side ≤ 1) (hr : rib < r 0) (hc : c < r 1) : SU (setI m 95 (side * 30 + (r 1 * rib + c)) (nI v)) r (updU U (30 * side + (3 * rib + c)) v) := by
  obtain ⟨f0, f1, f2, f3, f4⟩ := id hf
  refine ⟨fun side' rib' c' q1 q2 q3 => ?_, fun k hk hn => ?_⟩
  · unfold updU
    by_cases e : side' * 30 + (r 1 * rib' + c') = side * 30 + (r 1 * rib + c)
    · obtain ⟨rfl, rfl, rfl⟩ := ix_inj hf q2 q3 hr hc e
      rw [sI_eq, if_pos rfl]
      rfl
    · rw [sI_nj e, hS.1 side' rib' c' q1 q2 q3, if_neg]
      intro z
      apply e
      obtain rfl : side' = side := by omega
      obtain rfl : rib' = rib := by omega
      obtain rfl : c' = c := by omega
      rfl
  · rw [sI_nj (fun e => hn ⟨side, rib, c, hs, hr, hc, e⟩), hS.2 k hk hn]
/-- the row that the class looks at, for what was seen -/
def RWq (m : Me) (t q : Nat) (r : Nat → Nat) : Prop := SY m (t + 27 + 2 * q) (z_seen r q) ∧ m.1 (t + 27 + 2 * q) 2 = nI (r (108 + q)) ∧ m.1 (t + 27 + 2 * q) 4 = nI (r (120 + q)) ∧ m.1 88 2 = nI (zL0 r q).length ∧ ∀ k, k < (zL0 r q).length → m.1 89 k = nI (z_cc r ((zL0 r q).getD k 0))
theorem RWq.cg {m' : Me} (h : RWq m t q r) (ht : t = 3 ∨ t = 42) (hq : q < 6) (e : ∀ x j, x ≠ 94 → x ≠ 95 → m'.1 x j = m.1 x j) : RWq m' t q r := ⟨h.1.cg (fun x j z => e x j (by omega) (by omega)), (e _ _ (by omega) (by omega)).trans h.2.1, (e _ _ (by omega) (by omega)).trans h.2.2.1, (e _ _ (by omega) (by omega)).trans h.2.2.2.1, fun k hk => (e _ _ (by omega) (by omega)).trans (h.2.2.2.2 k hk)⟩
theorem zcc_e {r : Nat → Nat} {rib c : Nat} (hc : c < 3) : z_cc r (3 * rib + c) = r 1 * rib + c := by
  unfold z_cc
  rw [show (3 * rib + c) / 3 = rib by omega, show (3 * rib + c) % 3 = c by omega]
theorem ct2 (hK : OKr r) (hq : q < r 7) (hR : RWq m t q r) (hS : SU m r U) (hU : UOK U) : ∀ j k f, k + j = r (126 + q) → j < f → fX9_contradicts_2 f (t + 27 + 2 * q) 88 (nI k) m = some (nI (if z_al (okU r q U) k j then 0 else 1), m) := by
  obtain ⟨h1, h2, h4, h5, h6⟩ := hR
  obtain ⟨f0, f1, f2, f3, f4⟩ := id hK.1
  have h1' : m.1 (t + 27 + 2 * q) 1 = nI (r (126 + q)) := by
    have := h1.1
    rw [z_seen_len] at this
    exact this
  have h7 := hK.2.2.2.2.2.1
  intro j
  induction j with
  | zero =>
    intro k f hk hf
    obtain ⟨f, rfl⟩ : ∃ n', f = n' + 1 := ⟨f - 1, by omega⟩
    have b8 := (hK.S q hq).2.1
    rw [fX9_contradicts_2, z_al]
    unfold fX9_contradicts_70
    simp (disch := omega) only [h1', cl2_so, cl1_so, ck_tr, zl_0, zl_1, zl_2, zl_3, zl_4, zl_5, zl_6, zl_7, zl_8, zl_9, zl_10, zl_11, zl_12, zl_15, zl_16, zl_20, zl_24, zl_25, zl_30, zl_31, zl_32, zl_33, zl_44, zl_48, zl_50, zl_57, zl_59, zl_60, zl_61, zl_62, zl_63, zl_64, zl_68, zl_97, zl_99, zl_100, zl_104, zl_108, zl_114, zl_120, zl_122, zl_126, zl_132, zl_180, zl_181, zl_186, zl_255, zl_900, zl_930, zl_1000, zl_1000000, nI_add, pk_mul, zs_sub, zs_lt, zs_le, zs_eq, zs_inb, zs_cl, zm_eq, zm_eq2, zm_lt, zm_le, mz_lt, mz_le, mm_eq, zs_bit, zs_or1, zs_div, zs_rem, ck_pos, if_pos, if_neg, true_or, or_true, true_and, and_true, false_or, or_false, false_and, and_false, not_true, not_false_iff, if_true, if_false, eq_self, Bool.false_eq_true, cl2_id, Bool.not_true, Bool.not_false]
  | succ j ih =>
    intro k f hk hf
    obtain ⟨f, rfl⟩ : ∃ n', f = n' + 1 := ⟨f - 1, by omega⟩
    have ih' := ih (k + 1) f (by omega) (by omega)
    obtain ⟨sl, sl2, o1, rib, c, hr, hc, es⟩ := sid_ok hK hq (k := k) (by omega)
    obtain ⟨b1, b2, b3⟩ := seen_b hK hq (k := k) (by omega)
    have e6 := h6 (r (120 + q) + k) sl
    rw [es, zcc_e (by omega)] at e6
    have el := suLet hS hK.1 o1 hr hc
    have ew : m.1 (t + 27 + 2 * q + 1) k = nI (r (132 + 8 * q + k)) := by
      have := h1.2 k (by rw [z_seen_len]; omega)
      unfold z_seen at this
      rw [z_w_at (by omega)] at this
      exact this
    rw [fX9_contradicts_2, z_al]
    unfold fX9_contradicts_64 fX9_contradicts_70
    have esid : sid r q k = 30 * r (108 + q) + (3 * rib + c) := by
      unfold sid
      rw [es]
    cases hu : U (30 * r (108 + q) + (3 * rib + c)) with
    | none =>
      rw [hu] at el
      have hok : okU r q U k = true := by
        unfold okU
        rw [esid, hu]
      rw [hok]
      have el' : fX9_sureLetter (nI (r (108 + q))) (nI (r 1 * rib + c)) m = some (-nI 3, m) := el
      simp (disch := omega) only [h1', h5, h4, h2, e6, el', Bool.true_and, cl2_so, cl1_so, ck_tr, zl_0, zl_1, zl_2, zl_3, zl_4, zl_5, zl_6, zl_7, zl_8, zl_9, zl_10, zl_11, zl_12, zl_15, zl_16, zl_20, zl_24, zl_25, zl_30, zl_31, zl_32, zl_33, zl_44, zl_48, zl_50, zl_57, zl_59, zl_60, zl_61, zl_62, zl_63, zl_64, zl_68, zl_97, zl_99, zl_100, zl_104, zl_108, zl_114, zl_120, zl_122, zl_126, zl_132, zl_180, zl_181, zl_186, zl_255, zl_900, zl_930, zl_1000, zl_1000000, nI_add, pk_mul, zs_sub, zs_lt, zs_le, zs_eq, zs_inb, zs_cl, zm_eq, zm_eq2, zm_lt, zm_le, mz_lt, mz_le, mm_eq, zs_bit, zs_or1, zs_div, zs_rem, ck_pos, if_pos, if_neg, true_or, or_true, true_and, and_true, false_or, or_false, false_and, and_false, not_true, not_false_iff, if_true, if_false, eq_self, Bool.false_eq_true, cl2_id, Bool.not_true, Bool.not_false]
      exact ih'
    | some d =>
      rw [hu] at el
      have el' : fX9_sureLetter (nI (r (108 + q))) (nI (r 1 * rib + c)) m = some (nI d, m) := el
      have hd := hU _ _ hu
      have hok : okU r q U k = decide (d = r (132 + 8 * q + k)) := by
        unfold okU
        rw [esid, hu]
      rw [hok]
      by_cases hdc : d = r (132 + 8 * q + k)
      · rw [decide_eq_true hdc, Bool.true_and]
        simp (disch := omega) only [h1', h5, h4, h2, e6, el', ew, hdc, cl2_so, cl1_so, ck_tr, zl_0, zl_1, zl_2, zl_3, zl_4, zl_5, zl_6, zl_7, zl_8, zl_9, zl_10, zl_11, zl_12, zl_15, zl_16, zl_20, zl_24, zl_25, zl_30, zl_31, zl_32, zl_33, zl_44, zl_48, zl_50, zl_57, zl_59, zl_60, zl_61, zl_62, zl_63, zl_64, zl_68, zl_97, zl_99, zl_100, zl_104, zl_108, zl_114, zl_120, zl_122, zl_126, zl_132, zl_180, zl_181, zl_186, zl_255, zl_900, zl_930, zl_1000, zl_1000000, nI_add, pk_mul, zs_sub, zs_lt, zs_le, zs_eq, zs_inb, zs_cl, zm_eq, zm_eq2, zm_lt, zm_le, mz_lt, mz_le, mm_eq, zs_bit, zs_or1, zs_div, zs_rem, ck_pos, if_pos, if_neg, true_or, or_true, true_and, and_true, false_or, or_false, false_and, and_false, not_true, not_false_iff, if_true, if_false, eq_self, Bool.false_eq_true, cl2_id, Bool.not_true, Bool.not_false]
        exact ih'
      · rw [decide_eq_false hdc, Bool.false_and]
        simp (disch := omega) only [h1', h5, h4, h2, e6, el', ew, hdc, cl2_so, cl1_so, ck_tr, zl_0, zl_1, zl_2, zl_3, zl_4, zl_5, zl_6, zl_7, zl_8, zl_9, zl_10, zl_11, zl_12, zl_15, zl_16, zl_20, zl_24, zl_25, zl_30, zl_31, zl_32, zl_33, zl_44, zl_48, zl_50, zl_57, zl_59, zl_60, zl_61, zl_62, zl_63, zl_64, zl_68, zl_97, zl_99, zl_100, zl_104, zl_108, zl_114, zl_120, zl_122, zl_126, zl_132, zl_180, zl_181, zl_186, zl_255, zl_900, zl_930, zl_1000, zl_1000000, nI_add, pk_mul, zs_sub, zs_lt, zs_le, zs_eq, zs_inb, zs_cl, zm_eq, zm_eq2, zm_lt, zm_le, mz_lt, mz_le, mm_eq, zs_bit, zs_or1, zs_div, zs_rem, ck_pos, if_pos, if_neg, true_or, or_true, true_and, and_true, false_or, or_false, false_and, and_false, not_true, not_false_iff, if_true, if_false, eq_self, Bool.false_eq_true, cl2_id, Bool.not_true, Bool.not_false]
theorem lr2 (ht : t = 3 ∨ t = 42) (hK : OKr r) (hq : q < r 7) : ∀ j k f (m : Me) (U : Nat → Option Nat), RWq m t q r → SU m r U → k + j = r (126 + q) → j < f → ∃ m', fX9_learn_2 f (t + 27 + 2 * q) 88 (nI k) m = some m' ∧ SU m' r (lrn r q k j U) ∧ (∀ x j, x ≠ 95 → m'.1 x j = m.1 x j) ∧ m'.2 = m.2 := by
  obtain ⟨f0, f1, f2, f3, f4⟩ := id hK.1
  have h7 := hK.2.2.2.2.2.1
  intro j
  induction j with
  | zero =>
    intro k f m U hR hS hk hf
    obtain ⟨f, rfl⟩ : ∃ n', f = n' + 1 := ⟨f - 1, by omega⟩
    obtain ⟨h1, h2, h4, h5, h6⟩ := hR
    have h1' : m.1 (t + 27 + 2 * q) 1 = nI (r (126 + q)) := by
      have := h1.1
      rw [z_seen_len] at this
      exact this
    have b8 := (hK.S q hq).2.1
    refine ⟨m, ?_, hS, fun _ _ _ => rfl, rfl⟩
    rw [fX9_learn_2]
    unfold fX9_learn_77
    simp (disch := omega) only [h1', cl2_so, cl1_so, ck_tr, zl_0, zl_1, zl_2, zl_3, zl_4, zl_5, zl_6, zl_7, zl_8, zl_9, zl_10, zl_11, zl_12, zl_15, zl_16, zl_20, zl_24, zl_25, zl_30, zl_31, zl_32, zl_33, zl_44, zl_48, zl_50, zl_57, zl_59, zl_60, zl_61, zl_62, zl_63, zl_64, zl_68, zl_97, zl_99, zl_100, zl_104, zl_108, zl_114, zl_120, zl_122, zl_126, zl_132, zl_180, zl_181, zl_186, zl_255, zl_900, zl_930, zl_1000, zl_1000000, nI_add, pk_mul, zs_sub, zs_lt, zs_le, zs_eq, zs_inb, zs_cl, zm_eq, zm_eq2, zm_lt, zm_le, mz_lt, mz_le, mm_eq, zs_bit, zs_or1, zs_div, zs_rem, ck_pos, if_pos, if_neg, true_or, or_true, true_and, and_true, false_or, or_false, false_and, and_false, not_true, not_false_iff, if_true, if_false, eq_self, Bool.false_eq_true, cl2_id, Bool.not_true, Bool.not_false]
  | succ j ih =>
    intro k f m U hR hS hk hf
    obtain ⟨f, rfl⟩ : ∃ n', f = n' + 1 := ⟨f - 1, by omega⟩
    obtain ⟨h1, h2, h4, h5, h6⟩ := id hR
    have h1' : m.1 (t + 27 + 2 * q) 1 = nI (r (126 + q)) := by
      have := h1.1
      rw [z_seen_len] at this
      exact this
    obtain ⟨sl, sl2, o1, rib, c, hr, hc, es⟩ := sid_ok hK hq (k := k) (by omega)
    obtain ⟨b1, b2, b3⟩ := seen_b hK hq (k := k) (by omega)
    have hx := ix_lt hK.1 hr hc
    have e6 := h6 (r (120 + q) + k) sl
    rw [es, zcc_e (by omega)] at e6
    have ew : m.1 (t + 27 + 2 * q + 1) k = nI (r (132 + 8 * q + k)) := by
      have := h1.2 k (by rw [z_seen_len]; omega)
      unfold z_seen at this
      rw [z_w_at (by omega)] at this
      exact this
    have esid : sid r q k = 30 * r (108 + q) + (3 * rib + c) := by
      unfold sid
      rw [es]
    obtain ⟨m', i1, i2, i3, i4⟩ := ih (k + 1) f (setI m 95 (r (108 + q) * 30 + (r 1 * rib + c)) (nI (r (132 + 8 * q + k)))) (updU U (sid r q k) (r (132 + 8 * q + k))) (hR.cg ht (by omega) (fun x j _ z => sI_na z)) (by rw [esid]; exact hS.upd hK.1 o1 hr hc) (by omega) (by omega)
    refine ⟨m', ?_, i2, fun x j z => (i3 x j z).trans (sI_na z), i4⟩
    rw [fX9_learn_2]
    unfold fX9_learn_71 fX9_learn_77
    simp (disch := omega) only [h1', h5, h4, h2, e6, ci_e, ew, cl2_so, cl1_so, ck_tr, zl_0, zl_1, zl_2, zl_3, zl_4, zl_5, zl_6, zl_7, zl_8, zl_9, zl_10, zl_11, zl_12, zl_15, zl_16, zl_20, zl_24, zl_25, zl_30, zl_31, zl_32, zl_33, zl_44, zl_48, zl_50, zl_57, zl_59, zl_60, zl_61, zl_62, zl_63, zl_64, zl_68, zl_97, zl_99, zl_100, zl_104, zl_108, zl_114, zl_120, zl_122, zl_126, zl_132, zl_180, zl_181, zl_186, zl_255, zl_900, zl_930, zl_1000, zl_1000000, nI_add, pk_mul, zs_sub, zs_lt, zs_le, zs_eq, zs_inb, zs_cl, zm_eq, zm_eq2, zm_lt, zm_le, mz_lt, mz_le, mm_eq, zs_bit, zs_or1, zs_div, zs_rem, ck_pos, if_pos, if_neg, true_or, or_true, true_and, and_true, false_or, or_false, false_and, and_false, not_true, not_false_iff, if_true, if_false, eq_self, Bool.false_eq_true, cl2_id, Bool.not_true, Bool.not_false]
    exact i1
theorem sd33 (ht : t = 3 ∨ t = 42) (hK : OKr r) : ∀ j q f (m : Me) (U : Nat → Option Nat), CF m t r → CP m (t + 1) r s → cS m t r → m.1 t 11 = nI (r 7) → m.1 94 1 = -nI 2 → SU m r U → UOK U → q + j = r 7 → j + 1 < f → ∃ m', fX9_study_33 f t 88 (nI q) m = some m' ∧ SU m' r (sur r q j U).1 ∧ m'.1 94 1 = clI (sur r q j U).2 ∧ (∀ x j, ¬ (88 ≤ x ∧ x ≤ 90) → x ≠ 94 → x ≠ 95 → m'.1 x j = m.1 x j) ∧ m'.2 = m.2 := by
  have h7 := hK.2.2.2.2.2.1
  intro j
  induction j with
  | zero =>
    intro q f m U hF hP hcS h11 h94 hS hU hq hf
    obtain ⟨f, rfl⟩ : ∃ n', f = n' + 1 := ⟨f - 1, by omega⟩
    refine ⟨m, ?_, hS, h94, fun _ _ _ _ _ => rfl, rfl⟩
    rw [fX9_study_33]
    unfold fX9_study_109
    simp (disch := omega) only [h11, cl2_so, cl1_so, ck_tr, zl_0, zl_1, zl_2, zl_3, zl_4, zl_5, zl_6, zl_7, zl_8, zl_9, zl_10, zl_11, zl_12, zl_15, zl_16, zl_20, zl_24, zl_25, zl_30, zl_31, zl_32, zl_33, zl_44, zl_48, zl_50, zl_57, zl_59, zl_60, zl_61, zl_62, zl_63, zl_64, zl_68, zl_97, zl_99, zl_100, zl_104, zl_108, zl_114, zl_120, zl_122, zl_126, zl_132, zl_180, zl_181, zl_186, zl_255, zl_900, zl_930, zl_1000, zl_1000000, nI_add, pk_mul, zs_sub, zs_lt, zs_le, zs_eq, zs_inb, zs_cl, zm_eq, zm_eq2, zm_lt, zm_le, mz_lt, mz_le, mm_eq, zs_bit, zs_or1, zs_div, zs_rem, ck_pos, if_pos, if_neg, true_or, or_true, true_and, and_true, false_or, or_false, false_and, and_false, not_true, not_false_iff, if_true, if_false, eq_self, Bool.false_eq_true, cl2_id, Bool.not_true, Bool.not_false]
  | succ j ih =>
    intro q f m U hF hP hcS h11 h94 hS hU hq hf
    obtain ⟨f, rfl⟩ : ∃ n', f = n' + 1 := ⟨f - 1, by omega⟩
    obtain ⟨s1, s2, s3, s4⟩ := hcS q (by omega)
    obtain ⟨o1, o2, o3, o4, o5, o6⟩ := hK.S q (by omega)
    have kt : kd t = 2 := by rcases ht with rfl | rfl <;> rfl
    have elook := fX7_look_e (m := m) (show kd 88 = 7 by decide) kt (kd2s kt) hK.1 hF hP (side := r (108 + q)) (op := r (114 + q)) (br := 0) o3 o4 (by decide)
    generalize hM1 : rowM m 88 ((z_show r (r (108 + q)) (r (114 + q)) 0).map (z_cc r)) ((z_show r (r (108 + q)) (r (114 + q)) 0).map (fun c => s (30 * r (108 + q) + c))) = m1 at elook
    have fr : ∀ x j, ¬ (88 ≤ x ∧ x ≤ 90) → m1.1 x j = m.1 x j := fun x j z => by
      rw [← hM1]
      exact rowM_na (by omega) (by omega) (by omega)
    have fr2 : m1.2 = m.2 := by
      rw [← hM1]
      rfl
    have hRW : RWq m1 t q r := by
      refine ⟨s1.cg (fun x j z => fr x j (by omega)), (fr _ _ (by omega)).trans s2, (fr _ _ (by omega)).trans s4, ?_, fun k hk => ?_⟩
      · rw [← hM1, rowM_len, List.length_map]
        rfl
      · rw [← hM1, rowM_cell (by rw [List.length_map]; exact hk)]
        have hk' : k < (z_show r (r (108 + q)) (r (114 + q)) 0).length := hk
        rw [getD_map0 hk']
        rfl
    have hS1 : SU m1 r U := hS.cg (fun j => fr 95 j (by omega))
    have ec := ct2 hK (by omega) hRW hS1 hU (r (126 + q)) 0 FU (by omega) (FU_pos (by omega))
    have k94 : m1.1 94 1 = -nI 2 := (fr 94 1 (by omega)).trans h94
    have e0 : fX9_study_33 (f + 1) t 88 (nI q) m = cl2 (fX9_contradicts (t + 27 + 2 * q) 88 m1) fun r11 m12 => if r11 = (0 : Int32) then cl1 (fX9_learn (t + 27 + 2 * q) 88 m12) fun m16 => fX9_study_103 (fX9_study_33 f) t 88 (nI q) m16 else fX9_study_103 (fX9_study_33 f) t 88 (nI q) (setI m12 94 1 (nI q)) := by
      rw [fX9_study_33, h11, if_neg (fun z => by rw [zs_le (by omega) (by omega)] at z; omega), h94, if_pos (by decide), ck_pos ((zs_inb (by omega)).mpr (by omega)), zs_cl (by omega), s2, s3]
      exact cl1_e elook
    rw [e0, sur]
    have ec' : fX9_contradicts (t + 27 + 2 * q) 88 m1 = some (nI (if z_al (okU r q U) 0 (r (126 + q)) then 0 else 1), m1) := ec
    rw [ec', cl2_so]
    cases hz : z_al (okU r q U) 0 (r (126 + q))
    · rw [if_neg (by decide), if_neg (by decide)]
      refine ⟨setI m1 94 1 (nI q), ?_, hS1.cg (fun j => sI_na (by decide)), sI_eq _ _ _ _, fun x j z1 z2 z3 => (sI_na z2).trans (fr x j z1), fr2⟩
      unfold fX9_study_103
      obtain ⟨f, rfl⟩ : ∃ n', f = n' + 1 := ⟨f - 1, by omega⟩
      have g94 : (setI m1 94 1 (nI q)).1 94 1 = nI q := sI_eq _ _ _ _
      have hne : ¬ nI q = (-2 : Int32) := fun z => by
        have z' : nI q = -nI 2 := z
        rw [zm_eq (by omega) (by omega)] at z'
        omega
      rw [fX9_study_33, g94]
      unfold fX9_study_109
      rw [if_neg hne]
      split <;> rfl
    · rw [if_pos (by decide), if_pos rfl]
      obtain ⟨m2, i1, i2, i3, i4⟩ := lr2 ht hK (by omega) (r (126 + q)) 0 FU m1 U hRW hS1 (by omega) (FU_pos (by omega))
      have fr3 : ∀ x j, ¬ (88 ≤ x ∧ x ≤ 90) → x ≠ 95 → m2.1 x j = m.1 x j := fun x j z1 z2 => (i3 x j z2).trans (fr x j z1)
      obtain ⟨m3, j1, j2, j3, j4, j5⟩ := ih (q + 1) f m2 (lrn r q 0 (r (126 + q)) U) ⟨(fr3 t 0 (by omega) (by omega)).trans hF.1, (fr3 t 1 (by omega) (by omega)).trans hF.2.1, (fr3 t 3 (by omega) (by omega)).trans hF.2.2⟩ (fun side rib c x y z => (fr3 _ _ (by omega) (by omega)).trans (hP side rib c x y z)) (hcS.cg hK.S h7 (fun x j z1 z2 => fr3 x j (by omega) (by omega)) (fun _ _ => rfl)) ((fr3 t 11 (by omega) (by omega)).trans h11) ((fr3 94 1 (by omega) (by omega)).trans h94) i2 (lrn_ok hK (by omega) _ 0 U hU (by omega)) (by omega) (by omega)
      refine ⟨m3, ?_, j2, j3, fun x j z1 z2 z3 => (j4 x j z1 z2 z3).trans (fr3 x j z1 z3), j5.trans (i4.trans fr2)⟩
      have i1' : fX9_learn (t + 27 + 2 * q) 88 m1 = some m2 := i1
      rw [i1', cl1_so]
      unfold fX9_study_103
      rw [zl_1, nI_add]
      exact j1
theorem sd2 {a1 a2 : Nat} : ∀ j k f (m : Me), (∀ i, i < k → m.1 95 i = -nI 3) → k + j = 60 → j < f → ∃ m', fX9_study_2 f a1 a2 (nI k) m = fX9_study_33 FU a1 a2 (nI 0) (setI m' 94 1 (-nI 2)) ∧ (∀ i, i < 60 → m'.1 95 i = -nI 3) ∧ (∀ x j, x ≠ 95 → m'.1 x j = m.1 x j) ∧ m'.2 = m.2 := by
  intro j
  induction j with
  | zero =>
    intro k f m h hk hf
    obtain ⟨f, rfl⟩ : ∃ n', f = n' + 1 := ⟨f - 1, by omega⟩
    obtain rfl : k = 60 := by omega
    refine ⟨m, ?_, h, fun _ _ _ => rfl, rfl⟩
    rw [fX9_study_2, if_pos (by decide)]
    rfl
  | succ j ih =>
    intro k f m h hk hf
    obtain ⟨f, rfl⟩ : ∃ n', f = n' + 1 := ⟨f - 1, by omega⟩
    obtain ⟨m', i1, i2, i3, i4⟩ := ih (k + 1) f (setI m 95 k (-nI 3)) (fun i hi => by
      by_cases z : i = k
      · subst z
        exact sI_eq _ _ _ _
      · rw [sI_nj z]
        exact h i (by omega)) (by omega) (by omega)
    refine ⟨m', ?_, i2, fun x j z => (i3 x j z).trans (sI_na z), i4⟩
    rw [fX9_study_2]
    simp (disch := omega) only [cl2_so, cl1_so, ck_tr, zl_0, zl_1, zl_2, zl_3, zl_4, zl_5, zl_6, zl_7, zl_8, zl_9, zl_10, zl_11, zl_12, zl_15, zl_16, zl_20, zl_24, zl_25, zl_30, zl_31, zl_32, zl_33, zl_44, zl_48, zl_50, zl_57, zl_59, zl_60, zl_61, zl_62, zl_63, zl_64, zl_68, zl_97, zl_99, zl_100, zl_104, zl_108, zl_114, zl_120, zl_122, zl_126, zl_132, zl_180, zl_181, zl_186, zl_255, zl_900, zl_930, zl_1000, zl_1000000, nI_add, pk_mul, zs_sub, zs_lt, zs_le, zs_eq, zs_inb, zs_cl, zm_eq, zm_eq2, zm_lt, zm_le, mz_lt, mz_le, mm_eq, zs_bit, zs_or1, zs_div, zs_rem, ck_pos, if_pos, if_neg, true_or, or_true, true_and, and_true, false_or, or_false, false_and, and_false, not_true, not_false_iff, if_true, if_false, eq_self, Bool.false_eq_true, cl2_id, Bool.not_true, Bool.not_false]
    exact i1
theorem study_e (ht : t = 3 ∨ t = 42) (hK : OKr r) (hC : CT m t r) (hP : CP m (t + 1) r s) : ∃ m', fX9_study t 88 m = some m' ∧ SC m' r ∧ (∀ x j, ¬ (88 ≤ x ∧ x ≤ 90) → x ≠ 94 → x ≠ 95 → m'.1 x j = m.1 x j) ∧ m'.2 = m.2 := by
  obtain ⟨m1, e1, a1, a2, a3⟩ := sd2 (a1 := t) (a2 := 88) 60 0 FU m (fun i hi => absurd hi (by omega)) (by omega) (FU_pos (by omega))
  have fr : ∀ x j, x ≠ 94 → x ≠ 95 → (setI m1 94 1 (-nI 2)).1 x j = m.1 x j := fun x j z1 z2 => (sI_na z1).trans (a2 x j z2)
  have h7 := hK.2.2.2.2.2.1
  have hSU : SU (setI m1 94 1 (-nI 2)) r (fun _ => none) := by
    refine ⟨fun side rib c x y z => ?_, fun k hk _ => (sI_na (by decide)).trans (a1 k hk)⟩
    have hx := ix_lt hK.1 y z
    rw [sI_na (by decide), a1 _ (by omega)]
    rfl
  obtain ⟨m2, e2, b1, b2, b3, b4⟩ := sd33 (s := s) ht hK (r 7) 0 FU (setI m1 94 1 (-nI 2)) (fun _ => none) ⟨(fr t 0 (by omega) (by omega)).trans hC.1.1, (fr t 1 (by omega) (by omega)).trans hC.1.2.1, (fr t 3 (by omega) (by omega)).trans hC.1.2.2⟩ (fun side rib c x y z => (fr _ _ (by omega) (by omega)).trans (hP side rib c x y z)) (hC.S.cg hK.S h7 (fun x j z1 z2 => fr x j (by omega) (by omega)) (fun _ _ => rfl)) ((fr t 11 (by omega) (by omega)).trans hC.2.1.2.2.2.1) (sI_eq _ _ _ _) hSU (fun k c e => by cases e) (by omega) (FU_pos (by omega))
  exact ⟨m2, e1.trans e2, ⟨b1.1, b1.2, b2⟩, fun x j z1 z2 z3 => (b3 x j z1 z2 z3).trans (fr x j z2 z3), b4.trans a3⟩
end STUDY
