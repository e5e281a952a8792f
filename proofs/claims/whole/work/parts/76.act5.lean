/-! undo, image, back -/
section ACT5
variable {m : Me} {x1 x2 x3 x4 : Int32}
theorem t_undo (hI : Inv m) (hW : WI m) : Two fX10_undo fX11_undo m := by
  obtain ⟨H, r, s, T, L, b, U, ss, A, im, hJ, hF, hT, hU, hA, hN, hD⟩ := id hW
  obtain ⟨hC, hM, hO, hS⟩ := id hJ
  obtain ⟨u1, u2, u3, u4, u5⟩ := id hU
  by_cases h0 : U = 0
  · subst h0
    refine ⟨nI 0, setI m 0 16 (nI 6), _, ?_, ?_, hW.deny hI (T := 6) (by decide)⟩
    · have et : fX0_takeBack 81 m = some (nI 0, m) := by
        unfold fX0_takeBack
        rw [u2]
        rfl
      unfold fX10_undo fX10_undo_27
      simp (disch := omega) only [et, dn_e, cl2_so, cl1_so, ck_tr, zl_0, zl_1, zl_2, zl_3, zl_4, zl_5, zl_6, zl_7, zl_8, zl_9, zl_10, zl_11, zl_12, zl_15, zl_16, zl_20, zl_24, zl_25, zl_30, zl_31, zl_32, zl_33, zl_44, zl_48, zl_50, zl_57, zl_59, zl_60, zl_61, zl_62, zl_63, zl_64, zl_68, zl_97, zl_99, zl_100, zl_104, zl_108, zl_114, zl_120, zl_122, zl_126, zl_132, zl_180, zl_181, zl_186, zl_255, zl_900, zl_930, zl_1000, zl_1000000, nI_add, pk_mul, zs_sub, zs_lt, zs_le, zs_eq, zs_inb, zs_cl, zm_eq, zm_eq2, zm_lt, zm_le, mz_lt, mz_le, mm_eq, zs_bit, zs_or1, zs_div, zs_rem, ck_pos, if_pos, if_neg, true_or, or_true, true_and, and_true, false_or, or_false, false_and, and_false, not_true, not_false_iff, if_true, if_false, eq_self, Bool.false_eq_true, cl2_id, Bool.not_true, Bool.not_false]
    · have e3 : (gdM (setI m 0 16 (nI 6))).1 138 21 = nI 0 := u3
      unfold fX11_undo
      simp (disch := omega) only [gd_e, e3, nt_e, cl2_so, cl1_so, ck_tr, zl_0, zl_1, zl_2, zl_3, zl_4, zl_5, zl_6, zl_7, zl_8, zl_9, zl_10, zl_11, zl_12, zl_15, zl_16, zl_20, zl_24, zl_25, zl_30, zl_31, zl_32, zl_33, zl_44, zl_48, zl_50, zl_57, zl_59, zl_60, zl_61, zl_62, zl_63, zl_64, zl_68, zl_97, zl_99, zl_100, zl_104, zl_108, zl_114, zl_120, zl_122, zl_126, zl_132, zl_180, zl_181, zl_186, zl_255, zl_900, zl_930, zl_1000, zl_1000000, nI_add, pk_mul, zs_sub, zs_lt, zs_le, zs_eq, zs_inb, zs_cl, zm_eq, zm_eq2, zm_lt, zm_le, mz_lt, mz_le, mm_eq, zs_bit, zs_or1, zs_div, zs_rem, ck_pos, if_pos, if_neg, true_or, or_true, true_and, and_true, false_or, or_false, false_and, and_false, not_true, not_false_iff, if_true, if_false, eq_self, Bool.false_eq_true, cl2_id, Bool.not_true, Bool.not_false]
  · obtain ⟨u, rfl⟩ : ∃ u, U = u + 1 := ⟨U - 1, by omega⟩
    have hH : H = true := by
      cases H
      · have := (hN rfl).1
        omega
      · rfl
    subst hH
    have hK : KO r s := hO rfl
    have hf := hK.1.1
    obtain ⟨v1, v2, v3⟩ := u5 u (by omega)
    have hPs : CPs m 81 r (ss (u + 1)) := by
      obtain ⟨p1, p2, p3, p4⟩ := (hC.2 rfl).2
      obtain ⟨f0, f1, f2, f3, f4⟩ := id hf
      exact ⟨fun side rib c x y z => by rw [u4 _ (by omega)]; exact p1 side rib c x y z, by rw [u4 60 (by omega)]; exact p2, by rw [u4 61 (by omega)]; exact p3, p4⟩
    obtain ⟨mt, et, t1, t2, t3, t4⟩ := takeBack_e (u := u) (by omega) u2 hf hPs v3
    have e3 : (gdM (setI mt 0 16 (nI 0))).1 138 21 = nI (u + 1) := by
      rw [(gd_ak _).1 138 21 (by decide), sI_na (by decide), t2 138 21 (by omega) (by omega)]
      exact u3
    refine ⟨nI 1, setI mt 0 16 (nI 0), cpM (setI (gdM (setI mt 0 16 (nI 0))) 138 21 (nI u)) 145 (62 * u) 143 0 62, ?_, ?_, ?_⟩
    · unfold fX10_undo fX10_undo_27
      simp (disch := omega) only [et, al_e, cl2_so, cl1_so, ck_tr, zl_0, zl_1, zl_2, zl_3, zl_4, zl_5, zl_6, zl_7, zl_8, zl_9, zl_10, zl_11, zl_12, zl_15, zl_16, zl_20, zl_24, zl_25, zl_30, zl_31, zl_32, zl_33, zl_44, zl_48, zl_50, zl_57, zl_59, zl_60, zl_61, zl_62, zl_63, zl_64, zl_68, zl_97, zl_99, zl_100, zl_104, zl_108, zl_114, zl_120, zl_122, zl_126, zl_132, zl_180, zl_181, zl_186, zl_255, zl_900, zl_930, zl_1000, zl_1000000, nI_add, pk_mul, zs_sub, zs_lt, zs_le, zs_eq, zs_inb, zs_cl, zm_eq, zm_eq2, zm_lt, zm_le, mz_lt, mz_le, mm_eq, zs_bit, zs_or1, zs_div, zs_rem, ck_pos, if_pos, if_neg, true_or, or_true, true_and, and_true, false_or, or_false, false_and, and_false, not_true, not_false_iff, if_true, if_false, eq_self, Bool.false_eq_true, cl2_id, Bool.not_true, Bool.not_false]
    · have e4 : (setI (gdM (setI mt 0 16 (nI 0))) 138 21 (nI u)).1 138 21 = nI u := sI_eq _ _ _ _
      have e5 := copy_e (m := setI (gdM (setI mt 0 16 (nI 0))) 138 21 (nI u)) (a0 := 145) (p := 62 * u) (a2 := 143) (d := 0) (L := 62) (by decide) (by show _ ≤ 992; omega) (by decide) (by omega)
      unfold fX11_undo
      simp (disch := omega) only [gd_e, e3, Nat.add_sub_cancel, e4, e5, cl2_so, cl1_so, ck_tr, zl_0, zl_1, zl_2, zl_3, zl_4, zl_5, zl_6, zl_7, zl_8, zl_9, zl_10, zl_11, zl_12, zl_15, zl_16, zl_20, zl_24, zl_25, zl_30, zl_31, zl_32, zl_33, zl_44, zl_48, zl_50, zl_57, zl_59, zl_60, zl_61, zl_62, zl_63, zl_64, zl_68, zl_97, zl_99, zl_100, zl_104, zl_108, zl_114, zl_120, zl_122, zl_126, zl_132, zl_180, zl_181, zl_186, zl_255, zl_900, zl_930, zl_1000, zl_1000000, nI_add, pk_mul, zs_sub, zs_lt, zs_le, zs_eq, zs_inb, zs_cl, zm_eq, zm_eq2, zm_lt, zm_le, mz_lt, mz_le, mm_eq, zs_bit, zs_or1, zs_div, zs_rem, ck_pos, if_pos, if_neg, true_or, or_true, true_and, and_true, false_or, or_false, false_and, and_false, not_true, not_false_iff, if_true, if_false, eq_self, Bool.false_eq_true, cl2_id, Bool.not_true, Bool.not_false]
    · have c1 : ∀ a j, a ≠ 143 → (setI (gdM (setI mt 0 16 (nI 0))) 138 21 (nI u)).1 a j = (cpM (setI (gdM (setI mt 0 16 (nI 0))) 138 21 (nI u)) 145 (62 * u) 143 0 62).1 a j := fun a j q => (cpM_na q).symm
      have c2 : ∀ a j, scr a j = false → ¬ (a = 138 ∧ j = 21) → (setI (gdM (setI mt 0 16 (nI 0))) 138 21 (nI u)).1 a j = mt.1 a j := fun a j q z => by
        rw [sI_1, if_neg z, (gd_ak _).agM.1 a j q, sI_1, if_neg (ns16 q)]
      have c3 : ∀ a j, scr a j = false → ¬ (81 ≤ a ∧ a ≤ 82) → ¬ (a = 84 ∧ j = 3) → a ≠ 143 → ¬ (a = 138 ∧ j = 21) → (cpM (setI (gdM (setI mt 0 16 (nI 0))) 138 21 (nI u)) 145 (62 * u) 143 0 62).1 a j = m.1 a j := fun a j z1 z2 z3 z4 z5 => (c1 a j z4).symm.trans ((c2 a j z1 z5).trans (t2 a j z2 z3))
      refine WI.act (s' := ss u) (U := u) (ss := ss) (ivT hI).2 hD hJ hF.2.2.2.1 hT hA (fun a j z1 z2 z3 z4 z5 z6 => c3 a j z1 z2 (by omega) z4 z6) ?_ (t4.cg (fun a j q => ?_)) (fun k hk => ?_) v1 ⟨by omega, ?_, ?_, fun k hk => rfl, fun i hi => ?_⟩ ?_ ?_
      · intro a j _
        show mt.2 a j = m.2 a j
        rw [t1]
      · rw [← c1 a j (by omega), c2 a j (scr_f (by omega)) (by omega)]
      · have := cpM_in (m := setI (gdM (setI mt 0 16 (nI 0))) 138 21 (nI u)) (a0 := 145) (p := 62 * u) (a2 := 143) (d := 0) (L := 62) hk
        rw [Nat.zero_add] at this
        rw [this, c2 145 _ (scr_f (by omega)) (by omega), t2 145 _ (by omega) (by omega)]
        exact v2 k hk
      · rw [← c1 84 3 (by omega), c2 84 3 (scr_f (by omega)) (by omega)]
        exact t3
      · rw [cpM_na (by decide), sI_eq]
      · obtain ⟨w1, w2, w3⟩ := u5 i (by omega)
        exact ⟨w1, fun k hk => (c3 145 _ (scr_f (by omega)) (by omega) (by omega) (by omega) (by omega)).trans (w2 k hk), w3.cg (c3 85 _ (scr_f (by omega)) (by omega) (by omega) (by omega) (by omega)) (c3 86 _ (scr_f (by omega)) (by omega) (by omega) (by omega) (by omega)) (c3 87 _ (scr_f (by omega)) (by omega) (by omega) (by omega) (by omega))⟩
      · rw [cpM_na (by decide), sI_na (by decide), (gd_ak _).1 0 16 (by decide), sI_eq]
      · rw [cpM_na (by decide), sI_nj (by decide), gd_11]
theorem t_back (hI : Inv m) (hW : WI m) : Two (fX10_back x1) (fX11_back x1) m := by
  obtain ⟨H, r, s, T, L, b, U, ss, A, im, hJ, hF, hT, hU, hA, hN, hD⟩ := id hW
  obtain ⟨hC, hM, hO, hS⟩ := id hJ
  obtain ⟨i1, i2, i3, i4⟩ := id hA
  have hwi : ∀ mm : Me, fX11_within x1 (0 : Int32) (nI A - (1 : Int32)) mm = some (nI (if vN true A x1 then 1 else 0), mm) := by
    intro mm
    rw [within_e]
    unfold vN
    by_cases h0 : (0 : Int32) ≤ x1
    · have e := i_le_pred (n := A) (by omega) h0
      by_cases h1 : x1 < nI A
      · rw [if_pos ⟨h0, e.mpr h1⟩, decide_eq_true ⟨h0, h1⟩]
        rfl
      · rw [if_neg (fun q => h1 (e.mp q.2)), decide_eq_false (fun q => h1 q.2)]
        rfl
    · rw [if_neg (fun q => h0 q.1), decide_eq_false (fun q => h0 q.1)]
      rfl
  cases hv : vN true A x1
  · refine ⟨nI 0, setI m 0 16 (nI 1), _, ?_, ?_, hW.deny hI (T := 1) (by decide)⟩
    · unfold fX10_back fX10_back_12
      simp (disch := omega) only [i2, vN_lt0, hv, dn_e, cl2_so, cl1_so, ck_tr, zl_0, zl_1, zl_2, zl_3, zl_4, zl_5, zl_6, zl_7, zl_8, zl_9, zl_10, zl_11, zl_12, zl_15, zl_16, zl_20, zl_24, zl_25, zl_30, zl_31, zl_32, zl_33, zl_44, zl_48, zl_50, zl_57, zl_59, zl_60, zl_61, zl_62, zl_63, zl_64, zl_68, zl_97, zl_99, zl_100, zl_104, zl_108, zl_114, zl_120, zl_122, zl_126, zl_132, zl_180, zl_181, zl_186, zl_255, zl_900, zl_930, zl_1000, zl_1000000, nI_add, pk_mul, zs_sub, zs_lt, zs_le, zs_eq, zs_inb, zs_cl, zm_eq, zm_eq2, zm_lt, zm_le, mz_lt, mz_le, mm_eq, zs_bit, zs_or1, zs_div, zs_rem, ck_pos, if_pos, if_neg, true_or, or_true, true_and, and_true, false_or, or_false, false_and, and_false, not_true, not_false_iff, if_true, if_false, eq_self, Bool.false_eq_true, cl2_id, Bool.not_true, Bool.not_false]
    · have e3 : (gdM (setI m 0 16 (nI 1))).1 138 22 = nI A := i3
      have hw := hwi (gdM (setI m 0 16 (nI 1)))
      rw [hv] at hw
      unfold fX11_back
      rw [gd_e, cl1_so, e3]
      rw [cl2_e hw]
      simp (disch := omega) only [nt_e, cl2_so, cl1_so, ck_tr, zl_0, zl_1, zl_2, zl_3, zl_4, zl_5, zl_6, zl_7, zl_8, zl_9, zl_10, zl_11, zl_12, zl_15, zl_16, zl_20, zl_24, zl_25, zl_30, zl_31, zl_32, zl_33, zl_44, zl_48, zl_50, zl_57, zl_59, zl_60, zl_61, zl_62, zl_63, zl_64, zl_68, zl_97, zl_99, zl_100, zl_104, zl_108, zl_114, zl_120, zl_122, zl_126, zl_132, zl_180, zl_181, zl_186, zl_255, zl_900, zl_930, zl_1000, zl_1000000, nI_add, pk_mul, zs_sub, zs_lt, zs_le, zs_eq, zs_inb, zs_cl, zm_eq, zm_eq2, zm_lt, zm_le, mz_lt, mz_le, mm_eq, zs_bit, zs_or1, zs_div, zs_rem, ck_pos, if_pos, if_neg, true_or, or_true, true_and, and_true, false_or, or_false, false_and, and_false, not_true, not_false_iff, if_true, if_false, eq_self, Bool.false_eq_true, cl2_id, Bool.not_true, Bool.not_false]
  · obtain ⟨i, hi, rfl⟩ := vN_in (by omega) hv
    have hH : H = true := by
      cases H
      · have := (hN rfl).2.1
        omega
      · rfl
    subst hH
    have hK : KO r s := hO rfl
    have hf := hK.1.1
    obtain ⟨j1, j2, j3⟩ := i4 i hi
    obtain ⟨mc, ec, c1, c2, c3, c4, c5⟩ := cf_e (m := m) (a0 := 81) (a1 := 132 + 2 * i) (by omega) (by omega) (by omega)
    have e3 : (gdM (setI (setI mc 84 3 (nI 0)) 0 16 (nI 0))).1 138 22 = nI A := by
      rw [(gd_ak _).1 138 22 (by decide), sI_na (by decide), sI_na (by decide), c2 138 22 (by omega) (by omega)]
      exact i3
    refine ⟨nI 1, setI (setI mc 84 3 (nI 0)) 0 16 (nI 0), setI (cpM (gdM (setI (setI mc 84 3 (nI 0)) 0 16 (nI 0))) 146 (62 * i) 143 0 62) 138 21 (nI 0), ?_, ?_, ?_⟩
    · unfold fX10_back fX10_back_12 fX0_forget
      simp (disch := omega) only [i2, vN_lt0, hv, ec, al_e, cl2_so, cl1_so, ck_tr, zl_0, zl_1, zl_2, zl_3, zl_4, zl_5, zl_6, zl_7, zl_8, zl_9, zl_10, zl_11, zl_12, zl_15, zl_16, zl_20, zl_24, zl_25, zl_30, zl_31, zl_32, zl_33, zl_44, zl_48, zl_50, zl_57, zl_59, zl_60, zl_61, zl_62, zl_63, zl_64, zl_68, zl_97, zl_99, zl_100, zl_104, zl_108, zl_114, zl_120, zl_122, zl_126, zl_132, zl_180, zl_181, zl_186, zl_255, zl_900, zl_930, zl_1000, zl_1000000, nI_add, pk_mul, zs_sub, zs_lt, zs_le, zs_eq, zs_inb, zs_cl, zm_eq, zm_eq2, zm_lt, zm_le, mz_lt, mz_le, mm_eq, zs_bit, zs_or1, zs_div, zs_rem, ck_pos, if_pos, if_neg, true_or, or_true, true_and, and_true, false_or, or_false, false_and, and_false, not_true, not_false_iff, if_true, if_false, eq_self, Bool.false_eq_true, cl2_id, Bool.not_true, Bool.not_false]
    · have e5 := copy_e (m := gdM (setI (setI mc 84 3 (nI 0)) 0 16 (nI 0))) (a0 := 146) (p := 62 * i) (a2 := 143) (d := 0) (L := 62) (by decide) (by show _ ≤ 186; omega) (by decide) (by omega)
      have hw := hwi (gdM (setI (setI mc 84 3 (nI 0)) 0 16 (nI 0)))
      rw [hv] at hw
      unfold fX11_back
      rw [gd_e, cl1_so, e3]
      rw [cl2_e hw]
      simp (disch := omega) only [e5, cl2_so, cl1_so, ck_tr, zl_0, zl_1, zl_2, zl_3, zl_4, zl_5, zl_6, zl_7, zl_8, zl_9, zl_10, zl_11, zl_12, zl_15, zl_16, zl_20, zl_24, zl_25, zl_30, zl_31, zl_32, zl_33, zl_44, zl_48, zl_50, zl_57, zl_59, zl_60, zl_61, zl_62, zl_63, zl_64, zl_68, zl_97, zl_99, zl_100, zl_104, zl_108, zl_114, zl_120, zl_122, zl_126, zl_132, zl_180, zl_181, zl_186, zl_255, zl_900, zl_930, zl_1000, zl_1000000, nI_add, pk_mul, zs_sub, zs_lt, zs_le, zs_eq, zs_inb, zs_cl, zm_eq, zm_eq2, zm_lt, zm_le, mz_lt, mz_le, mm_eq, zs_bit, zs_or1, zs_div, zs_rem, ck_pos, if_pos, if_neg, true_or, or_true, true_and, and_true, false_or, or_false, false_and, and_false, not_true, not_false_iff, if_true, if_false, eq_self, Bool.false_eq_true, cl2_id, Bool.not_true, Bool.not_false]
    · have d1 : ∀ a j, scr a j = false → ¬ (81 ≤ a ∧ a ≤ 82) → ¬ (a = 84 ∧ j = 3) → a ≠ 143 → ¬ (a = 138 ∧ j = 21) → (setI (cpM (gdM (setI (setI mc 84 3 (nI 0)) 0 16 (nI 0))) 146 (62 * i) 143 0 62) 138 21 (nI 0)).1 a j = m.1 a j := fun a j z1 z2 z3 z4 z5 => by
        rw [sI_1, if_neg z5, cpM_na z4, (gd_ak _).agM.1 a j z1, sI_1, if_neg (ns16 z1), sI_1, if_neg z3, c2 a j (by omega) (by omega)]
      have d2 : ∀ a j, 81 ≤ a → a ≤ 82 → (setI (cpM (gdM (setI (setI mc 84 3 (nI 0)) 0 16 (nI 0))) 146 (62 * i) 143 0 62) 138 21 (nI 0)).1 a j = mc.1 a j := fun a j z1 z2 => by
        rw [sI_na (by omega), cpM_na (by omega), (gd_ak _).agM.1 a j (scr_f (by omega)), sI_na (by omega), sI_na (by omega)]
      refine WI.act (s' := im i) (U := 0) (ss := fun _ => im i) (ivT hI).2 hD hJ hF.2.2.2.1 hT hA (fun a j z1 z2 z3 z4 z5 z6 => d1 a j z1 z2 (by omega) z4 z6) ?_ (j2.mv ?_ ?_ (fun j hj => ?_) hf) (fun k hk => ?_) j1 ⟨by omega, ?_, sI_eq _ _ _ _, fun k hk => rfl, fun i hi => absurd hi (by omega)⟩ ?_ ?_
      · intro a j _
        show mc.2 a j = m.2 a j
        rw [c1]
      · rw [d2 81 1 (by omega) (by omega)]
        exact c3
      · rw [d2 81 2 (by omega) (by omega)]
        exact c4
      · rw [d2 82 j (by omega) (by omega)]
        exact c5 j hj
      · have := cpM_in (m := gdM (setI (setI mc 84 3 (nI 0)) 0 16 (nI 0))) (a0 := 146) (p := 62 * i) (a2 := 143) (d := 0) (L := 62) hk
        rw [Nat.zero_add] at this
        rw [sI_na (by decide), this, (gd_ak _).agM.1 146 _ (scr_f (by omega)), sI_na (by decide), sI_na (by decide), c2 146 _ (by omega) (by omega)]
        exact j3 k hk
      · rw [sI_na (by decide), cpM_na (by decide), (gd_ak _).agM.1 84 3 (by decide), sI_na (by decide), sI_eq]
      · rw [sI_na (by decide), cpM_na (by decide), (gd_ak _).1 0 16 (by decide), sI_eq]
      · rw [sI_nj (by decide), cpM_na (by decide), gd_11]
theorem t_image (hI : Inv m) (hW : WI m) : Two fX10_image fX11_image m := by
  obtain ⟨H, r, s, T, L, b, U, ss, A, im, hJ, hF, hT, hU, hA, hN, hD⟩ := id hW
  obtain ⟨hC, hM, hO, hS⟩ := id hJ
  obtain ⟨i1, i2, i3, i4⟩ := id hA
  have hc4 := hC.1
  cases H
  · have hc4' : m.1 0 4 = nI 0 := hc4
    refine ⟨-nI 1, setI m 0 16 (nI 1), _, ?_, ?_, hW.no hI (T := 1) (by decide)⟩
    · unfold fX10_image
      simp (disch := omega) only [hc4', rf_e, cl2_so, cl1_so, ck_tr, zl_0, zl_1, zl_2, zl_3, zl_4, zl_5, zl_6, zl_7, zl_8, zl_9, zl_10, zl_11, zl_12, zl_15, zl_16, zl_20, zl_24, zl_25, zl_30, zl_31, zl_32, zl_33, zl_44, zl_48, zl_50, zl_57, zl_59, zl_60, zl_61, zl_62, zl_63, zl_64, zl_68, zl_97, zl_99, zl_100, zl_104, zl_108, zl_114, zl_120, zl_122, zl_126, zl_132, zl_180, zl_181, zl_186, zl_255, zl_900, zl_930, zl_1000, zl_1000000, nI_add, pk_mul, zs_sub, zs_lt, zs_le, zs_eq, zs_inb, zs_cl, zm_eq, zm_eq2, zm_lt, zm_le, mz_lt, mz_le, mm_eq, zs_bit, zs_or1, zs_div, zs_rem, ck_pos, if_pos, if_neg, true_or, or_true, true_and, and_true, false_or, or_false, false_and, and_false, not_true, not_false_iff, if_true, if_false, eq_self, Bool.false_eq_true, cl2_id, Bool.not_true, Bool.not_false]
    · have e3 : (gdM (setI m 0 16 (nI 1))).1 138 14 = nI 0 := hM.1
      unfold fX11_image
      simp (disch := omega) only [gd_e, e3, mno_e, cl2_so, cl1_so, ck_tr, zl_0, zl_1, zl_2, zl_3, zl_4, zl_5, zl_6, zl_7, zl_8, zl_9, zl_10, zl_11, zl_12, zl_15, zl_16, zl_20, zl_24, zl_25, zl_30, zl_31, zl_32, zl_33, zl_44, zl_48, zl_50, zl_57, zl_59, zl_60, zl_61, zl_62, zl_63, zl_64, zl_68, zl_97, zl_99, zl_100, zl_104, zl_108, zl_114, zl_120, zl_122, zl_126, zl_132, zl_180, zl_181, zl_186, zl_255, zl_900, zl_930, zl_1000, zl_1000000, nI_add, pk_mul, zs_sub, zs_lt, zs_le, zs_eq, zs_inb, zs_cl, zm_eq, zm_eq2, zm_lt, zm_le, mz_lt, mz_le, mm_eq, zs_bit, zs_or1, zs_div, zs_rem, ck_pos, if_pos, if_neg, true_or, or_true, true_and, and_true, false_or, or_false, false_and, and_false, not_true, not_false_iff, if_true, if_false, eq_self, Bool.false_eq_true, cl2_id, Bool.not_true, Bool.not_false]
  · have hc4' : m.1 0 4 = nI 1 := hc4
    have hK : KO r s := hO rfl
    have hf := hK.1.1
    by_cases h3 : A = 3
    · subst h3
      refine ⟨-nI 1, setI m 0 16 (nI 3), _, ?_, ?_, hW.no hI (T := 3) (by decide)⟩
      · unfold fX10_image
        simp (disch := omega) only [hc4', i2, rf_e, cl2_so, cl1_so, ck_tr, zl_0, zl_1, zl_2, zl_3, zl_4, zl_5, zl_6, zl_7, zl_8, zl_9, zl_10, zl_11, zl_12, zl_15, zl_16, zl_20, zl_24, zl_25, zl_30, zl_31, zl_32, zl_33, zl_44, zl_48, zl_50, zl_57, zl_59, zl_60, zl_61, zl_62, zl_63, zl_64, zl_68, zl_97, zl_99, zl_100, zl_104, zl_108, zl_114, zl_120, zl_122, zl_126, zl_132, zl_180, zl_181, zl_186, zl_255, zl_900, zl_930, zl_1000, zl_1000000, nI_add, pk_mul, zs_sub, zs_lt, zs_le, zs_eq, zs_inb, zs_cl, zm_eq, zm_eq2, zm_lt, zm_le, mz_lt, mz_le, mm_eq, zs_bit, zs_or1, zs_div, zs_rem, ck_pos, if_pos, if_neg, true_or, or_true, true_and, and_true, false_or, or_false, false_and, and_false, not_true, not_false_iff, if_true, if_false, eq_self, Bool.false_eq_true, cl2_id, Bool.not_true, Bool.not_false]
      · have e3 : (gdM (setI m 0 16 (nI 3))).1 138 14 = nI 1 := hM.1
        have e4 : (gdM (setI m 0 16 (nI 3))).1 138 22 = nI 3 := i3
        unfold fX11_image
        simp (disch := omega) only [gd_e, e3, e4, mno_e, cl2_so, cl1_so, ck_tr, zl_0, zl_1, zl_2, zl_3, zl_4, zl_5, zl_6, zl_7, zl_8, zl_9, zl_10, zl_11, zl_12, zl_15, zl_16, zl_20, zl_24, zl_25, zl_30, zl_31, zl_32, zl_33, zl_44, zl_48, zl_50, zl_57, zl_59, zl_60, zl_61, zl_62, zl_63, zl_64, zl_68, zl_97, zl_99, zl_100, zl_104, zl_108, zl_114, zl_120, zl_122, zl_126, zl_132, zl_180, zl_181, zl_186, zl_255, zl_900, zl_930, zl_1000, zl_1000000, nI_add, pk_mul, zs_sub, zs_lt, zs_le, zs_eq, zs_inb, zs_cl, zm_eq, zm_eq2, zm_lt, zm_le, mz_lt, mz_le, mm_eq, zs_bit, zs_or1, zs_div, zs_rem, ck_pos, if_pos, if_neg, true_or, or_true, true_and, and_true, false_or, or_false, false_and, and_false, not_true, not_false_iff, if_true, if_false, eq_self, Bool.false_eq_true, cl2_id, Bool.not_true, Bool.not_false]
    · obtain ⟨mc, ec, c1, c2, c3, c4, c5⟩ := cf_e (m := m) (a0 := 132 + 2 * A) (a1 := 81) (by omega) (by omega) (by omega)
      have e7 : mc.1 0 7 = nI A := (c2 0 7 (by omega) (by omega)).trans i2
      have e3 : (gdM (setI (setI mc 0 7 (nI (A + 1))) 0 16 (nI 0))).1 138 14 = nI 1 := by
        rw [(gd_ak _).1 138 14 (by decide), sI_na (by decide), sI_na (by decide), c2 138 14 (by omega) (by omega)]
        exact hM.1
      have e4 : (gdM (setI (setI mc 0 7 (nI (A + 1))) 0 16 (nI 0))).1 138 22 = nI A := by
        rw [(gd_ak _).1 138 22 (by decide), sI_na (by decide), sI_na (by decide), c2 138 22 (by omega) (by omega)]
        exact i3
      refine ⟨nI A, setI (setI mc 0 7 (nI (A + 1))) 0 16 (nI 0), setI (cpM (gdM (setI (setI mc 0 7 (nI (A + 1))) 0 16 (nI 0))) 143 0 146 (62 * A) 62) 138 22 (nI (A + 1)), ?_, ?_, ?_⟩
      · have e8 : (setI mc 0 7 (nI (A + 1))).1 0 7 = nI (A + 1) := sI_eq _ _ _ _
        unfold fX10_image
        simp (disch := omega) only [hc4', i2, ec, e7, e8, Nat.add_sub_cancel, an_e, cl2_so, cl1_so, ck_tr, zl_0, zl_1, zl_2, zl_3, zl_4, zl_5, zl_6, zl_7, zl_8, zl_9, zl_10, zl_11, zl_12, zl_15, zl_16, zl_20, zl_24, zl_25, zl_30, zl_31, zl_32, zl_33, zl_44, zl_48, zl_50, zl_57, zl_59, zl_60, zl_61, zl_62, zl_63, zl_64, zl_68, zl_97, zl_99, zl_100, zl_104, zl_108, zl_114, zl_120, zl_122, zl_126, zl_132, zl_180, zl_181, zl_186, zl_255, zl_900, zl_930, zl_1000, zl_1000000, nI_add, pk_mul, zs_sub, zs_lt, zs_le, zs_eq, zs_inb, zs_cl, zm_eq, zm_eq2, zm_lt, zm_le, mz_lt, mz_le, mm_eq, zs_bit, zs_or1, zs_div, zs_rem, ck_pos, if_pos, if_neg, true_or, or_true, true_and, and_true, false_or, or_false, false_and, and_false, not_true, not_false_iff, if_true, if_false, eq_self, Bool.false_eq_true, cl2_id, Bool.not_true, Bool.not_false]
      · have e5 := copy_e (m := gdM (setI (setI mc 0 7 (nI (A + 1))) 0 16 (nI 0))) (a0 := 143) (p := 0) (a2 := 146) (d := 62 * A) (L := 62) (by decide) (by decide) (by show _ ≤ 186; omega) (by omega)
        have e6 : (cpM (gdM (setI (setI mc 0 7 (nI (A + 1))) 0 16 (nI 0))) 143 0 146 (62 * A) 62).1 138 22 = nI A := (cpM_na (by decide)).trans e4
        have e8 : (setI (cpM (gdM (setI (setI mc 0 7 (nI (A + 1))) 0 16 (nI 0))) 143 0 146 (62 * A) 62) 138 22 (nI (A + 1))).1 138 22 = nI (A + 1) := sI_eq _ _ _ _
        unfold fX11_image
        simp (disch := omega) only [gd_e, e3, e4, h3, e5, e6, e8, Nat.add_sub_cancel, cl2_so, cl1_so, ck_tr, zl_0, zl_1, zl_2, zl_3, zl_4, zl_5, zl_6, zl_7, zl_8, zl_9, zl_10, zl_11, zl_12, zl_15, zl_16, zl_20, zl_24, zl_25, zl_30, zl_31, zl_32, zl_33, zl_44, zl_48, zl_50, zl_57, zl_59, zl_60, zl_61, zl_62, zl_63, zl_64, zl_68, zl_97, zl_99, zl_100, zl_104, zl_108, zl_114, zl_120, zl_122, zl_126, zl_132, zl_180, zl_181, zl_186, zl_255, zl_900, zl_930, zl_1000, zl_1000000, nI_add, pk_mul, zs_sub, zs_lt, zs_le, zs_eq, zs_inb, zs_cl, zm_eq, zm_eq2, zm_lt, zm_le, mz_lt, mz_le, mm_eq, zs_bit, zs_or1, zs_div, zs_rem, ck_pos, if_pos, if_neg, true_or, or_true, true_and, and_true, false_or, or_false, false_and, and_false, not_true, not_false_iff, if_true, if_false, eq_self, Bool.false_eq_true, cl2_id, Bool.not_true, Bool.not_false]
      · generalize hm2 : setI (cpM (gdM (setI (setI mc 0 7 (nI (A + 1))) 0 16 (nI 0))) 143 0 146 (62 * A) 62) 138 22 (nI (A + 1)) = m2
        have d1 : ∀ a j, scr a j = false → ¬ (132 + 2 * A ≤ a ∧ a ≤ 133 + 2 * A) → ¬ (a = 0 ∧ j = 7) → a ≠ 146 → ¬ (a = 138 ∧ j = 22) → m2.1 a j = m.1 a j := fun a j z1 z2 z3 z4 z5 => by
          rw [← hm2, sI_1, if_neg z5, cpM_na z4, (gd_ak _).agM.1 a j z1, sI_1, if_neg (ns16 z1), sI_1, if_neg z3, c2 a j (by omega) (by omega)]
        have d2 : ∀ a j, 132 + 2 * A ≤ a → a ≤ 133 + 2 * A → m2.1 a j = mc.1 a j := fun a j z1 z2 => by
          rw [← hm2, sI_na (by omega), cpM_na (by omega), (gd_ak _).agM.1 a j (scr_f (by omega)), sI_na (by omega), sI_na (by omega)]
        have d3 : ∀ a j, ((a = 0 ∧ j ≠ 16 ∧ j ≠ 7) ∨ (1 ≤ a ∧ a ≤ 87) ∨ (94 ≤ a ∧ a ≤ 95) ∨ (a = 138 ∧ (j = 2 ∨ j = 9 ∨ j = 10 ∨ j = 14 ∨ j = 21)) ∨ (139 ≤ a ∧ a ≤ 145)) → m2.1 a j = m.1 a j := fun a j q => d1 a j (scr_f (by omega)) (by omega) (by omega) (by omega) (by omega)
        have er : m2.2 = m.2 := by rw [← hm2]; show mc.2 = _; rw [c1]
        have hr : rr m2 0 3 = rr m 0 3 := by
          unfold Jvm.Pilot.CFanPartsLaw_law_r1864_615eae.rr
          rw [er]
        have ht := kd2_two (ivT hI).2
        refine ⟨true, r, s, 0, L, b, U, ss, A + 1, fun i => if i = A then s else im i, ⟨⟨(d3 0 4 (by omega)).trans hC.1, fun q => ⟨?_, (hC.2 q).2.cg (fun a j z => d3 a j (by omega))⟩⟩, hM.cg (fun a j q => d3 a j (by omega)), hO, fun q => (hS q).cg (fun a j _ _ => d3 a j (by omega))⟩, ⟨by omega, ?_, ?_, ?_, fun q => absurd q (by omega)⟩, hT.cg (fun a j q => d3 a j (by omega)), hU.cg (fun a j q => d3 a j (by omega)), ⟨by omega, ?_, ?_, fun i hi => ?_⟩, fun q => absurd q (by decide), dj_of hD (fun a j _ => by rw [er])⟩
        · rw [hr]
          exact (hC.2 q).1.cg hK.1 (fun a j x y => d3 a j (by omega))
        · rw [← hm2, sI_na (by decide), cpM_na (by decide), (gd_ak _).1 0 16 (by decide), sI_eq]
        · rw [← hm2, sI_nj (by decide), cpM_na (by decide), gd_11]
        · rw [d3 138 9 (by omega), d3 1 8 (by omega)]
          exact hF.2.2.2.1
        · rw [← hm2, sI_na (by decide), cpM_na (by decide), (gd_ak _).1 0 7 (by decide), sI_nj (by decide), sI_eq]
        · rw [← hm2, sI_eq]
        · dsimp only
          by_cases q : i = A
          · subst q
            rw [if_pos rfl]
            refine ⟨hK.2, (hC.2 rfl).2.mv ((d2 _ _ (by omega) (by omega)).trans c3) ((d2 _ _ (by omega) (by omega)).trans c4) (fun j hj => (d2 _ _ (by omega) (by omega)).trans (c5 j hj)) hf, fun k hk => ?_⟩
            rw [← hm2, sI_na (by decide), cpM_in hk, Nat.zero_add, (gd_ak _).agM.1 143 k (scr_f (by omega)), sI_na (by decide), sI_na (by decide), c2 143 _ (by omega) (by omega)]
            exact (hM.2 rfl).2 k hk
          · rw [if_neg q]
            obtain ⟨j1, j2, j3⟩ := i4 i (by omega)
            refine ⟨j1, j2.cg (fun a j z => d1 a j (scr_f (by omega)) (by omega) (by omega) (by omega) (by omega)), fun k hk => ?_⟩
            rw [← hm2, sI_na (by decide), cpM_out (by omega), (gd_ak _).agM.1 146 _ (scr_f (by omega)), sI_na (by decide), sI_na (by decide), c2 146 _ (by omega) (by omega)]
            exact j3 k hk
end ACT5
