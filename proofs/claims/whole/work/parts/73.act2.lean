/-! acts -/
theorem ix_lt {r : Nat → Nat} (hf : z_fan r) {rib c : Nat} (hr : rib < r 0) (hc : c < r 1) : r 1 * rib + c < 30 := by
  obtain ⟨f0, f1, f2, f3, f4⟩ := hf
  have : r 1 * rib ≤ 3 * rib := Nat.mul_le_mul_right _ f3
  omega
theorem ix_inj {r : Nat → Nat} (hf : z_fan r) {side rib c side' rib' c' : Nat} (hr : rib < r 0) (hc : c < r 1) (hr' : rib' < r 0) (hc' : c' < r 1) (h : side * 30 + (r 1 * rib + c) = side' * 30 + (r 1 * rib' + c')) : side = side' ∧ rib = rib' ∧ c = c' := by
  have a := ix_lt hf hr hc
  have b := ix_lt hf hr' hc'
  have e : side = side' := by omega
  subst e
  obtain ⟨f0, f1, f2, f3, f4⟩ := hf
  have h1 : r 1 = 1 ∨ r 1 = 2 ∨ r 1 = 3 := by omega
  rcases h1 with h1 | h1 | h1 <;> simp only [h1] at h hc hc' <;> exact ⟨rfl, by omega, by omega⟩
section ACT2
variable {m : Me} {r s s' : Nat → Nat} {p : Nat}
theorem CPs.set (h : CPs m p r s') (hf : z_fan r) {side rib c : Nat} (hs : side ≤ 1) (hr : rib < r 0) (hc : c < r 1) (he : ∀ k, k < 62 → k ≠ 30 * side + (3 * rib + c) → s k = s' k) : CPs (setI m (p + 1) (side * 30 + (r 1 * rib + c)) (nI (s (30 * side + (3 * rib + c))))) p r s := by
  obtain ⟨h1, h2, h3, h4⟩ := h
  obtain ⟨f0, f1, f2, f3, f4⟩ := id hf
  refine ⟨fun side' rib' c' q1 q2 q3 => ?_, ?_, ?_, fun k hk hn => ?_⟩
  · by_cases e : side' * 30 + (r 1 * rib' + c') = side * 30 + (r 1 * rib + c)
    · obtain ⟨rfl, rfl, rfl⟩ := ix_inj hf q2 q3 hr hc e
      exact sI_eq _ _ _ _
    · rw [sI_nj e, h1 side' rib' c' q1 q2 q3, he _ (by omega)]
      intro q
      apply e
      obtain rfl : side' = side := by omega
      obtain rfl : rib' = rib := by omega
      obtain rfl : c' = c := by omega
      rfl
  · rw [sI_na (by omega), h2, he 60 (by omega) (by omega)]
  · rw [sI_na (by omega), h3, he 61 (by omega) (by omega)]
  · rw [sI_nj (fun e => hn ⟨side, rib, c, hs, hr, hc, e⟩), h4 k hk hn]
theorem CPs.s60 (h : CPs m p r s') (hf : z_fan r) (he : ∀ k, k < 62 → k ≠ 60 → s k = s' k) : CPs (setI m p 1 (nI (s 60))) p r s := by
  obtain ⟨h1, h2, h3, h4⟩ := h
  obtain ⟨f0, f1, f2, f3, f4⟩ := id hf
  refine ⟨fun side' rib' c' q1 q2 q3 => ?_, sI_eq _ _ _ _, ?_, fun k hk hn => ?_⟩
  · rw [sI_na (by omega), h1 side' rib' c' q1 q2 q3, he _ (by omega) (by omega)]
  · rw [sI_nj (by omega), h3, he 61 (by omega) (by omega)]
  · rw [sI_na (by omega), h4 k hk hn]
theorem CPs.s61 (h : CPs m p r s') (hf : z_fan r) (he : ∀ k, k < 62 → k ≠ 61 → s k = s' k) : CPs (setI m p 2 (nI (s 61))) p r s := by
  obtain ⟨h1, h2, h3, h4⟩ := h
  obtain ⟨f0, f1, f2, f3, f4⟩ := id hf
  refine ⟨fun side' rib' c' q1 q2 q3 => ?_, ?_, sI_eq _ _ _ _, fun k hk hn => ?_⟩
  · rw [sI_na (by omega), h1 side' rib' c' q1 q2 q3, he _ (by omega) (by omega)]
  · rw [sI_nj (by omega), h2, he 60 (by omega) (by omega)]
  · rw [sI_na (by omega), h4 k hk hn]
theorem dn_e (T : Nat) (m : Me) : fX10_deny (nI T) m = some (nI 0, setI m 0 16 (nI T)) := rfl
theorem al_e (m : Me) : fX10_allow m = some (nI 1, setI m 0 16 (nI 0)) := rfl
theorem nt_e (T : Nat) (m : Me) : fX11_isNot (nI T) m = some (nI 0, setI m 138 11 (nI T)) := rfl
theorem rf_e (T : Nat) (m : Me) : fX10_refuse (nI T) m = some (-nI 1, setI m 0 16 (nI T)) := rfl
theorem an_e (V : Int32) (m : Me) : fX10_answer V m = some (V, setI m 0 16 (nI 0)) := rfl
theorem mno_e (T : Nat) (m : Me) : fX11_no (nI T) m = some (-nI 1, setI m 138 11 (nI T)) := rfl
theorem ci_e {a b : Nat} (m : Me) : fX10_cellIndex (nI a) (nI b) m = some (nI (a * 30 + b), m) := by
  unfold fX10_cellIndex
  simp (disch := omega) only [cl2_so, cl1_so, ck_tr, zl_0, zl_1, zl_2, zl_3, zl_4, zl_5, zl_6, zl_7, zl_8, zl_9, zl_10, zl_11, zl_12, zl_15, zl_16, zl_20, zl_24, zl_25, zl_30, zl_31, zl_32, zl_33, zl_44, zl_48, zl_50, zl_57, zl_59, zl_60, zl_61, zl_62, zl_63, zl_64, zl_68, zl_97, zl_99, zl_100, zl_104, zl_108, zl_114, zl_120, zl_122, zl_126, zl_132, zl_180, zl_181, zl_186, zl_255, zl_900, zl_930, zl_1000, zl_1000000, nI_add, pk_mul, zs_sub, zs_lt, zs_le, zs_eq, zs_inb, zs_cl, zm_eq, zm_eq2, zm_lt, zm_le, mz_lt, mz_le, mm_eq, zs_bit, zs_or1, zs_div, zs_rem, ck_pos, if_pos, if_neg, true_or, or_true, true_and, and_true, false_or, or_false, false_and, and_false, not_true, not_false_iff, if_true, if_false, eq_self, Bool.false_eq_true, cl2_id, Bool.not_true, Bool.not_false]
/-- a refusal on both sides -/
theorem WI.deny {m : Me} (hI : Inv m) (hW : WI m) {T : Nat} (hT : T ≤ 6 ∧ T ≠ 4) : WI (setI (gdM (setI m 0 16 (nI T))) 138 11 (nI T)) :=
  hW.sc hI ((((Ak.rf m).set (sc := sC) (nI T) (by decide)).agC.tr (gd_ak _).agM).tr ((Ak.rf _).set (sc := sM) (nI T) (by decide)).agM) (sI_na (by decide)) (sI_eq _ _ _ _) hT
theorem takeBack_e {u : Nat} (hu : u ≤ 15) (h : m.1 84 3 = nI (u + 1)) (hf : z_fan r) (hP : CPs m 81 r s') (hA : AC m r u s s') : ∃ m', fX0_takeBack 81 m = some (nI 1, m') ∧ m'.2 = m.2 ∧ (∀ a j, ¬ (81 ≤ a ∧ a ≤ 82) → ¬ (a = 84 ∧ j = 3) → m'.1 a j = m.1 a j) ∧ m'.1 84 3 = nI u ∧ CPs m' 81 r s := by
  have c3 : (setI m 84 3 (nI u)).1 84 3 = nI u := sI_eq _ _ _ _
  have hP' : CPs (setI m 84 3 (nI u)) 81 r s' := hP.cg (fun a j q => sI_na (by omega))
  rcases hA with ⟨side, rib, c, h1, h2, h3, h4, h5, h6, h7⟩ | ⟨h1, h2, h3⟩ | ⟨h1, h2, h3⟩
  · have hx := ix_lt hf h2 h3
    have c5 : (setI m 84 3 (nI u)).1 85 u = nI 0 := (sI_na (by decide)).trans h4
    have c6 : (setI m 84 3 (nI u)).1 86 u = nI (side * 30 + (r 1 * rib + c)) := (sI_na (by decide)).trans h5
    have c7 : (setI m 84 3 (nI u)).1 87 u = nI (s (30 * side + (3 * rib + c))) := (sI_na (by decide)).trans h6
    refine ⟨setI (setI m 84 3 (nI u)) 82 (side * 30 + (r 1 * rib + c)) (nI (s (30 * side + (3 * rib + c)))), ?_, rfl, fun a j q1 q2 => ?_, ?_, hP'.set (p := 81) hf h1 h2 h3 h7⟩
    · unfold fX0_takeBack fX0_takeBack_115
      simp (disch := omega) only [h, Nat.add_sub_cancel, c3, c5, c6, c7, cl2_so, cl1_so, ck_tr, zl_0, zl_1, zl_2, zl_3, zl_4, zl_5, zl_6, zl_7, zl_8, zl_9, zl_10, zl_11, zl_12, zl_15, zl_16, zl_20, zl_24, zl_25, zl_30, zl_31, zl_32, zl_33, zl_44, zl_48, zl_50, zl_57, zl_59, zl_60, zl_61, zl_62, zl_63, zl_64, zl_68, zl_97, zl_99, zl_100, zl_104, zl_108, zl_114, zl_120, zl_122, zl_126, zl_132, zl_180, zl_181, zl_186, zl_255, zl_900, zl_930, zl_1000, zl_1000000, nI_add, pk_mul, zs_sub, zs_lt, zs_le, zs_eq, zs_inb, zs_cl, zm_eq, zm_eq2, zm_lt, zm_le, mz_lt, mz_le, mm_eq, zs_bit, zs_or1, zs_div, zs_rem, ck_pos, if_pos, if_neg, true_or, or_true, true_and, and_true, false_or, or_false, false_and, and_false, not_true, not_false_iff, if_true, if_false, eq_self, Bool.false_eq_true, cl2_id, Bool.not_true, Bool.not_false]
    · rw [sI_na (by omega), sI_1, if_neg q2]
    · rw [sI_na (by omega)]
      exact c3
  · have c5 : (setI m 84 3 (nI u)).1 85 u = nI 1 := (sI_na (by decide)).trans h1
    have c7 : (setI m 84 3 (nI u)).1 87 u = nI (s 60) := (sI_na (by decide)).trans h2
    refine ⟨setI (setI m 84 3 (nI u)) 81 1 (nI (s 60)), ?_, rfl, fun a j q1 q2 => ?_, ?_, hP'.s60 hf h3⟩
    · unfold fX0_takeBack fX0_takeBack_115
      simp (disch := omega) only [h, Nat.add_sub_cancel, c3, c5, c7, cl2_so, cl1_so, ck_tr, zl_0, zl_1, zl_2, zl_3, zl_4, zl_5, zl_6, zl_7, zl_8, zl_9, zl_10, zl_11, zl_12, zl_15, zl_16, zl_20, zl_24, zl_25, zl_30, zl_31, zl_32, zl_33, zl_44, zl_48, zl_50, zl_57, zl_59, zl_60, zl_61, zl_62, zl_63, zl_64, zl_68, zl_97, zl_99, zl_100, zl_104, zl_108, zl_114, zl_120, zl_122, zl_126, zl_132, zl_180, zl_181, zl_186, zl_255, zl_900, zl_930, zl_1000, zl_1000000, nI_add, pk_mul, zs_sub, zs_lt, zs_le, zs_eq, zs_inb, zs_cl, zm_eq, zm_eq2, zm_lt, zm_le, mz_lt, mz_le, mm_eq, zs_bit, zs_or1, zs_div, zs_rem, ck_pos, if_pos, if_neg, true_or, or_true, true_and, and_true, false_or, or_false, false_and, and_false, not_true, not_false_iff, if_true, if_false, eq_self, Bool.false_eq_true, cl2_id, Bool.not_true, Bool.not_false]
    · rw [sI_na (by omega), sI_1, if_neg q2]
    · rw [sI_na (by omega)]
      exact c3
  · have c5 : (setI m 84 3 (nI u)).1 85 u = nI 2 := (sI_na (by decide)).trans h1
    have c7 : (setI m 84 3 (nI u)).1 87 u = nI (s 61) := (sI_na (by decide)).trans h2
    refine ⟨setI (setI m 84 3 (nI u)) 81 2 (nI (s 61)), ?_, rfl, fun a j q1 q2 => ?_, ?_, hP'.s61 hf h3⟩
    · unfold fX0_takeBack fX0_takeBack_115
      simp (disch := omega) only [h, Nat.add_sub_cancel, c3, c5, c7, cl2_so, cl1_so, ck_tr, zl_0, zl_1, zl_2, zl_3, zl_4, zl_5, zl_6, zl_7, zl_8, zl_9, zl_10, zl_11, zl_12, zl_15, zl_16, zl_20, zl_24, zl_25, zl_30, zl_31, zl_32, zl_33, zl_44, zl_48, zl_50, zl_57, zl_59, zl_60, zl_61, zl_62, zl_63, zl_64, zl_68, zl_97, zl_99, zl_100, zl_104, zl_108, zl_114, zl_120, zl_122, zl_126, zl_132, zl_180, zl_181, zl_186, zl_255, zl_900, zl_930, zl_1000, zl_1000000, nI_add, pk_mul, zs_sub, zs_lt, zs_le, zs_eq, zs_inb, zs_cl, zm_eq, zm_eq2, zm_lt, zm_le, mz_lt, mz_le, mm_eq, zs_bit, zs_or1, zs_div, zs_rem, ck_pos, if_pos, if_neg, true_or, or_true, true_and, and_true, false_or, or_false, false_and, and_false, not_true, not_false_iff, if_true, if_false, eq_self, Bool.false_eq_true, cl2_id, Bool.not_true, Bool.not_false]
    · rw [sI_na (by omega), sI_1, if_neg q2]
    · rw [sI_na (by omega)]
      exact c3
theorem cf_e {a0 a1 : Nat} (h : a0 ≠ a1) (h1 : a0 + 1 ≠ a1) (h2 : a0 ≠ a1 + 1) : ∃ m', fX5_copyFrom a0 a1 m = some m' ∧ m'.2 = m.2 ∧ (∀ a j, a ≠ a0 → a ≠ a0 + 1 → m'.1 a j = m.1 a j) ∧ m'.1 a0 1 = m.1 a1 1 ∧ m'.1 a0 2 = m.1 a1 2 ∧ ∀ k, k < 60 → m'.1 (a0 + 1) k = m.1 (a1 + 1) k := by
  refine ⟨_, rfl, rfl, fun a j q1 q2 => ?_, ?_, ?_, fun k hk => ?_⟩
  · rw [sI_na q1, sI_na q1, cpyI_a q2]
  · rw [sI_nj (by decide), sI_eq, cpyI_a (by omega)]
  · rw [sI_eq, sI_na (by omega), cpyI_a (by omega)]
  · rw [sI_na (by omega), sI_na (by omega), cpyI_in (by omega) (by omega), Nat.zero_add, Nat.sub_zero]
end ACT2
