/-! paint, breaks, open, flutter, undo, image, back -/
section ACT3
variable {m : Me} {x1 x2 x3 x4 : Int32}
theorem le25_out {x : Int32} (h : nI 0 ≤ x ∧ x ≤ nI 25) : ∃ l, l ≤ 25 ∧ x = nI l := by
  obtain ⟨k, hk, rfl⟩ := nI_of (Int32.not_lt.mpr h.1)
  exact ⟨k, (nI_leI hk (by omega)).mp h.2, rfl⟩
theorem t_paint (hI : Inv m) (hW : WI m) : Two (fX10_paint x1 x2 x3 x4) (fX11_paint x1 x2 x3 x4) m := by
  obtain ⟨H, r, s, T, L, b, U, ss, A, im, hJ, hF, hT, hU, hA, hN, hD⟩ := id hW
  obtain ⟨hC, hM, hO, hS⟩ := id hJ
  have hMd : ∀ T, JM (gdM (setI m 0 16 (nI T))) H r s := fun T => hM.ag (((Ak.rf m).set (sc := sC) (nI T) (by decide)).agC.tr (gd_ak _).agM)
  cases hv : vc H r x1 x2 x3
  · refine ⟨nI 0, setI m 0 16 (nI 1), _, ?_, ?_, hW.deny hI (T := 1) (by decide)⟩
    · unfold fX10_paint fX10_paint_28
      simp (disch := omega) only [fX10_noCell_e hC, hv, dn_e, cl2_so, cl1_so, ck_tr, zl_0, zl_1, zl_2, zl_3, zl_4, zl_5, zl_6, zl_7, zl_8, zl_9, zl_10, zl_11, zl_12, zl_15, zl_16, zl_20, zl_24, zl_25, zl_30, zl_31, zl_32, zl_33, zl_44, zl_48, zl_50, zl_57, zl_59, zl_60, zl_61, zl_62, zl_63, zl_64, zl_68, zl_97, zl_99, zl_100, zl_104, zl_108, zl_114, zl_120, zl_122, zl_126, zl_132, zl_180, zl_181, zl_186, zl_255, zl_900, zl_930, zl_1000, zl_1000000, nI_add, pk_mul, zs_sub, zs_lt, zs_le, zs_eq, zs_inb, zs_cl, zm_eq, zm_eq2, zm_lt, zm_le, mz_lt, mz_le, mm_eq, zs_bit, zs_or1, zs_div, zs_rem, ck_pos, if_pos, if_neg, true_or, or_true, true_and, and_true, false_or, or_false, false_and, and_false, not_true, not_false_iff, if_true, if_false, eq_self, Bool.false_eq_true, cl2_id, Bool.not_true, Bool.not_false]
    · unfold fX11_paint
      simp (disch := omega) only [gd_e, fX11_isCell_e (hMd 1) hO, hv, nt_e, cl2_so, cl1_so, ck_tr, zl_0, zl_1, zl_2, zl_3, zl_4, zl_5, zl_6, zl_7, zl_8, zl_9, zl_10, zl_11, zl_12, zl_15, zl_16, zl_20, zl_24, zl_25, zl_30, zl_31, zl_32, zl_33, zl_44, zl_48, zl_50, zl_57, zl_59, zl_60, zl_61, zl_62, zl_63, zl_64, zl_68, zl_97, zl_99, zl_100, zl_104, zl_108, zl_114, zl_120, zl_122, zl_126, zl_132, zl_180, zl_181, zl_186, zl_255, zl_900, zl_930, zl_1000, zl_1000000, nI_add, pk_mul, zs_sub, zs_lt, zs_le, zs_eq, zs_inb, zs_cl, zm_eq, zm_eq2, zm_lt, zm_le, mz_lt, mz_le, mm_eq, zs_bit, zs_or1, zs_div, zs_rem, ck_pos, if_pos, if_neg, true_or, or_true, true_and, and_true, false_or, or_false, false_and, and_false, not_true, not_false_iff, if_true, if_false, eq_self, Bool.false_eq_true, cl2_id, Bool.not_true, Bool.not_false]
  · obtain ⟨rfl, side, rib, c, a, b', d, rfl, rfl, rfl⟩ := vc_out hO hv
    have hK : KO r s := hO rfl
    have hf := hK.1.1
    have hx := ix_lt hf b' d
    obtain ⟨f0, f1, f2, f3, f4⟩ := id hf
    have e1 := (hC.2 rfl).1.1.2.1
    have e2 := (hC.2 rfl).2.1 side rib c a b' d
    have hl := hK.2.1 (30 * side + (3 * rib + c)) (by omega)
    by_cases h4 : nI 0 ≤ x4 ∧ x4 ≤ nI 25
    · obtain ⟨l, hl25, rfl⟩ := le25_out h4
      by_cases he : s (30 * side + (3 * rib + c)) = l
      · refine ⟨nI 0, setI m 0 16 (nI 5), _, ?_, ?_, hW.deny hI (T := 5) (by decide)⟩
        · unfold fX10_paint fX10_paint_28
          simp (disch := omega) only [fX10_noCell_e hC, hv, dn_e, e1, ci_e, e2, he, cl2_so, cl1_so, ck_tr, zl_0, zl_1, zl_2, zl_3, zl_4, zl_5, zl_6, zl_7, zl_8, zl_9, zl_10, zl_11, zl_12, zl_15, zl_16, zl_20, zl_24, zl_25, zl_30, zl_31, zl_32, zl_33, zl_44, zl_48, zl_50, zl_57, zl_59, zl_60, zl_61, zl_62, zl_63, zl_64, zl_68, zl_97, zl_99, zl_100, zl_104, zl_108, zl_114, zl_120, zl_122, zl_126, zl_132, zl_180, zl_181, zl_186, zl_255, zl_900, zl_930, zl_1000, zl_1000000, nI_add, pk_mul, zs_sub, zs_lt, zs_le, zs_eq, zs_inb, zs_cl, zm_eq, zm_eq2, zm_lt, zm_le, mz_lt, mz_le, mm_eq, zs_bit, zs_or1, zs_div, zs_rem, ck_pos, if_pos, if_neg, true_or, or_true, true_and, and_true, false_or, or_false, false_and, and_false, not_true, not_false_iff, if_true, if_false, eq_self, Bool.false_eq_true, cl2_id, Bool.not_true, Bool.not_false]
        · have e3 := ((hMd 5).2 rfl).2 (30 * side + (3 * rib + c)) (by omega)
          unfold fX11_paint
          simp (disch := omega) only [gd_e, fX11_isCell_e (hMd 5) hO, hv, nt_e, within_e, Nat.add_assoc, e3, he, cl2_so, cl1_so, ck_tr, zl_0, zl_1, zl_2, zl_3, zl_4, zl_5, zl_6, zl_7, zl_8, zl_9, zl_10, zl_11, zl_12, zl_15, zl_16, zl_20, zl_24, zl_25, zl_30, zl_31, zl_32, zl_33, zl_44, zl_48, zl_50, zl_57, zl_59, zl_60, zl_61, zl_62, zl_63, zl_64, zl_68, zl_97, zl_99, zl_100, zl_104, zl_108, zl_114, zl_120, zl_122, zl_126, zl_132, zl_180, zl_181, zl_186, zl_255, zl_900, zl_930, zl_1000, zl_1000000, nI_add, pk_mul, zs_sub, zs_lt, zs_le, zs_eq, zs_inb, zs_cl, zm_eq, zm_eq2, zm_lt, zm_le, mz_lt, mz_le, mm_eq, zs_bit, zs_or1, zs_div, zs_rem, ck_pos, if_pos, if_neg, true_or, or_true, true_and, and_true, false_or, or_false, false_and, and_false, not_true, not_false_iff, if_true, if_false, eq_self, Bool.false_eq_true, cl2_id, Bool.not_true, Bool.not_false]
      · obtain ⟨mk, ek, k1, k2, u, e, hu, hue, k3, k4, k5⟩ := keep_e hU.1 hU.2.1 (nI 0) (nI (side * 30 + (r 1 * rib + c))) (nI (s (30 * side + (3 * rib + c))))
        have hPk : CPs mk 81 r s := (hC.2 rfl).2.cg (fun a j q => k1 a j (by omega))
        have hMk : JM (gdM (setI (setI mk 82 (side * 30 + (r 1 * rib + c)) (nI l)) 0 16 (nI 0))) true r s := (hM.cg (fun a j q => ((sI_na (by omega)).trans (sI_na (by omega))).trans (k1 a j (by omega)))).ag (gd_ak _).agM
        have h21 : (gdM (setI (setI mk 82 (side * 30 + (r 1 * rib + c)) (nI l)) 0 16 (nI 0))).1 138 21 = nI U := ((gd_ak _).1 138 21 (by decide)).trans (((sI_na (by omega)).trans (sI_na (by omega))).trans ((k1 138 21 (by omega)).trans hU.2.2.1))
        obtain ⟨mn, en, n1, n2, u', e', hu', hue', n3, n4, n5⟩ := note_e hU.1 h21 (hMk.2 rfl).2
        refine ⟨nI 1, setI (setI mk 82 (side * 30 + (r 1 * rib + c)) (nI l)) 0 16 (nI 0), setI mn 143 (30 * side + (3 * rib + c)) (nI l), ?_, ?_, ?_⟩
        · unfold fX10_paint fX10_paint_28
          simp (disch := omega) only [fX10_noCell_e hC, hv, al_e, e1, ci_e, e2, he, ek, cl2_so, cl1_so, ck_tr, zl_0, zl_1, zl_2, zl_3, zl_4, zl_5, zl_6, zl_7, zl_8, zl_9, zl_10, zl_11, zl_12, zl_15, zl_16, zl_20, zl_24, zl_25, zl_30, zl_31, zl_32, zl_33, zl_44, zl_48, zl_50, zl_57, zl_59, zl_60, zl_61, zl_62, zl_63, zl_64, zl_68, zl_97, zl_99, zl_100, zl_104, zl_108, zl_114, zl_120, zl_122, zl_126, zl_132, zl_180, zl_181, zl_186, zl_255, zl_900, zl_930, zl_1000, zl_1000000, nI_add, pk_mul, zs_sub, zs_lt, zs_le, zs_eq, zs_inb, zs_cl, zm_eq, zm_eq2, zm_lt, zm_le, mz_lt, mz_le, mm_eq, zs_bit, zs_or1, zs_div, zs_rem, ck_pos, if_pos, if_neg, true_or, or_true, true_and, and_true, false_or, or_false, false_and, and_false, not_true, not_false_iff, if_true, if_false, eq_self, Bool.false_eq_true, cl2_id, Bool.not_true, Bool.not_false]
        · have e3 := (hMk.2 rfl).2 (30 * side + (3 * rib + c)) (by omega)
          unfold fX11_paint
          simp (disch := omega) only [gd_e, fX11_isCell_e hMk hO, hv, within_e, Nat.add_assoc, e3, he, en, cl2_so, cl1_so, ck_tr, zl_0, zl_1, zl_2, zl_3, zl_4, zl_5, zl_6, zl_7, zl_8, zl_9, zl_10, zl_11, zl_12, zl_15, zl_16, zl_20, zl_24, zl_25, zl_30, zl_31, zl_32, zl_33, zl_44, zl_48, zl_50, zl_57, zl_59, zl_60, zl_61, zl_62, zl_63, zl_64, zl_68, zl_97, zl_99, zl_100, zl_104, zl_108, zl_114, zl_120, zl_122, zl_126, zl_132, zl_180, zl_181, zl_186, zl_255, zl_900, zl_930, zl_1000, zl_1000000, nI_add, pk_mul, zs_sub, zs_lt, zs_le, zs_eq, zs_inb, zs_cl, zm_eq, zm_eq2, zm_lt, zm_le, mz_lt, mz_le, mm_eq, zs_bit, zs_or1, zs_div, zs_rem, ck_pos, if_pos, if_neg, true_or, or_true, true_and, and_true, false_or, or_false, false_and, and_false, not_true, not_false_iff, if_true, if_false, eq_self, Bool.false_eq_true, cl2_id, Bool.not_true, Bool.not_false]
        · have hs' : ∀ k, k < 62 → k ≠ 30 * side + (3 * rib + c) → (fun k => if k = 30 * side + (3 * rib + c) then l else s k) k = s k := fun k _ h => if_neg h
          have hP1 := hPk.set hf a b' d hs'
          rw [if_pos (c := 30 * side + (3 * rib + c) = 30 * side + (3 * rib + c)) rfl] at hP1
          refine fin_act (m1 := setI (setI mk 82 (side * 30 + (r 1 * rib + c)) (nI l)) 0 16 (nI 0)) (s' := fun k => if k = 30 * side + (3 * rib + c) then l else s k) (ivT hI).2 hD hJ hF.2.2.2.1 hT hU hA k1 k2 hue k3 k4 k5 (fun a j z1 z2 => ?_) (fun _ _ _ => rfl) (hP1.cg (fun a j q => sI_na (by omega))) (gd_ak _).agM n1 n2 hue' n3 n4 n5 (fun a j z1 z2 => sI_na z2) (fun _ _ _ => rfl) (fun k hk => ?_) ⟨fun k hk => ?_, ?_, ?_, fun side' k z1 z2 z3 => ?_⟩ (fun z1 z2 z3 => Or.inl ⟨side, rib, c, a, b', d, z1, z2, z3, fun k hk hn => (if_neg hn).symm⟩) ?_ ?_
          · rw [sI_1, if_neg (ns16 z2), sI_na (by omega)]
          · dsimp only
            by_cases q : k = 30 * side + (3 * rib + c)
            · subst q
              rw [sI_eq, if_pos rfl]
            · rw [sI_nj q, n1 143 k (by decide) (by omega), if_neg q]
              exact (hMk.2 rfl).2 k hk
          · dsimp only
            split
            · exact hl25
            · exact hK.2.1 k hk
          · dsimp only
            rw [if_neg (by omega)]
            exact hK.2.2.1
          · dsimp only
            rw [if_neg (by omega)]
            exact hK.2.2.2.1
          · dsimp only
            rw [if_neg]
            · exact hK.2.2.2.2 side' k z1 z2 z3
            · intro q
              apply z3
              have : k = 3 * rib + c := by omega
              omega
          · rw [sI_na (by decide), n1 0 16 (by decide) (by decide), (gd_ak _).1 0 16 (by decide), sI_eq]
          · rw [sI_na (by decide), n1 138 11 (by decide) (by decide), gd_11]
    · refine ⟨nI 0, setI m 0 16 (nI 2), _, ?_, ?_, hW.deny hI (T := 2) (by decide)⟩
      · unfold fX10_paint fX10_paint_28
        by_cases q : x4 < nI 0
        · simp (disch := omega) only [fX10_noCell_e hC, hv, dn_e, q, cl2_so, cl1_so, ck_tr, zl_0, zl_1, zl_2, zl_3, zl_4, zl_5, zl_6, zl_7, zl_8, zl_9, zl_10, zl_11, zl_12, zl_15, zl_16, zl_20, zl_24, zl_25, zl_30, zl_31, zl_32, zl_33, zl_44, zl_48, zl_50, zl_57, zl_59, zl_60, zl_61, zl_62, zl_63, zl_64, zl_68, zl_97, zl_99, zl_100, zl_104, zl_108, zl_114, zl_120, zl_122, zl_126, zl_132, zl_180, zl_181, zl_186, zl_255, zl_900, zl_930, zl_1000, zl_1000000, nI_add, pk_mul, zs_sub, zs_lt, zs_le, zs_eq, zs_inb, zs_cl, zm_eq, zm_eq2, zm_lt, zm_le, mz_lt, mz_le, mm_eq, zs_bit, zs_or1, zs_div, zs_rem, ck_pos, if_pos, if_neg, true_or, or_true, true_and, and_true, false_or, or_false, false_and, and_false, not_true, not_false_iff, if_true, if_false, eq_self, Bool.false_eq_true, cl2_id, Bool.not_true, Bool.not_false]
        · have q2 : ¬ x4 ≤ nI 25 := fun z => h4 ⟨Int32.not_lt.mp q, z⟩
          simp (disch := omega) only [fX10_noCell_e hC, hv, dn_e, q, q2, cl2_so, cl1_so, ck_tr, zl_0, zl_1, zl_2, zl_3, zl_4, zl_5, zl_6, zl_7, zl_8, zl_9, zl_10, zl_11, zl_12, zl_15, zl_16, zl_20, zl_24, zl_25, zl_30, zl_31, zl_32, zl_33, zl_44, zl_48, zl_50, zl_57, zl_59, zl_60, zl_61, zl_62, zl_63, zl_64, zl_68, zl_97, zl_99, zl_100, zl_104, zl_108, zl_114, zl_120, zl_122, zl_126, zl_132, zl_180, zl_181, zl_186, zl_255, zl_900, zl_930, zl_1000, zl_1000000, nI_add, pk_mul, zs_sub, zs_lt, zs_le, zs_eq, zs_inb, zs_cl, zm_eq, zm_eq2, zm_lt, zm_le, mz_lt, mz_le, mm_eq, zs_bit, zs_or1, zs_div, zs_rem, ck_pos, if_pos, if_neg, true_or, or_true, true_and, and_true, false_or, or_false, false_and, and_false, not_true, not_false_iff, if_true, if_false, eq_self, Bool.false_eq_true, cl2_id, Bool.not_true, Bool.not_false]
      · unfold fX11_paint
        simp (disch := omega) only [gd_e, fX11_isCell_e (hMd 2) hO, hv, nt_e, within_e, h4, cl2_so, cl1_so, ck_tr, zl_0, zl_1, zl_2, zl_3, zl_4, zl_5, zl_6, zl_7, zl_8, zl_9, zl_10, zl_11, zl_12, zl_15, zl_16, zl_20, zl_24, zl_25, zl_30, zl_31, zl_32, zl_33, zl_44, zl_48, zl_50, zl_57, zl_59, zl_60, zl_61, zl_62, zl_63, zl_64, zl_68, zl_97, zl_99, zl_100, zl_104, zl_108, zl_114, zl_120, zl_122, zl_126, zl_132, zl_180, zl_181, zl_186, zl_255, zl_900, zl_930, zl_1000, zl_1000000, nI_add, pk_mul, zs_sub, zs_lt, zs_le, zs_eq, zs_inb, zs_cl, zm_eq, zm_eq2, zm_lt, zm_le, mz_lt, mz_le, mm_eq, zs_bit, zs_or1, zs_div, zs_rem, ck_pos, if_pos, if_neg, true_or, or_true, true_and, and_true, false_or, or_false, false_and, and_false, not_true, not_false_iff, if_true, if_false, eq_self, Bool.false_eq_true, cl2_id, Bool.not_true, Bool.not_false]
theorem t_breaks (hI : Inv m) (hW : WI m) (hx2 : x2 = nI 0 ∨ x2 = nI 1) : Two (fX10_breaks x1 x2) (fX11_breaks x1 x2) m := by
  obtain ⟨H, r, s, T, L, b, U, ss, A, im, hJ, hF, hT, hU, hA, hN, hD⟩ := id hW
  obtain ⟨hC, hM, hO, hS⟩ := id hJ
  have hMd : ∀ T, JM (gdM (setI m 0 16 (nI T))) H r s := fun T => hM.ag (((Ak.rf m).set (sc := sC) (nI T) (by decide)).agC.tr (gd_ak _).agM)
  cases hv : vN H (r 0) x1
  · refine ⟨nI 0, setI m 0 16 (nI 1), _, ?_, ?_, hW.deny hI (T := 1) (by decide)⟩
    · unfold fX10_breaks
      simp (disch := omega) only [fX10_noRib_e hC, hv, dn_e, cl2_so, cl1_so, ck_tr, zl_0, zl_1, zl_2, zl_3, zl_4, zl_5, zl_6, zl_7, zl_8, zl_9, zl_10, zl_11, zl_12, zl_15, zl_16, zl_20, zl_24, zl_25, zl_30, zl_31, zl_32, zl_33, zl_44, zl_48, zl_50, zl_57, zl_59, zl_60, zl_61, zl_62, zl_63, zl_64, zl_68, zl_97, zl_99, zl_100, zl_104, zl_108, zl_114, zl_120, zl_122, zl_126, zl_132, zl_180, zl_181, zl_186, zl_255, zl_900, zl_930, zl_1000, zl_1000000, nI_add, pk_mul, zs_sub, zs_lt, zs_le, zs_eq, zs_inb, zs_cl, zm_eq, zm_eq2, zm_lt, zm_le, mz_lt, mz_le, mm_eq, zs_bit, zs_or1, zs_div, zs_rem, ck_pos, if_pos, if_neg, true_or, or_true, true_and, and_true, false_or, or_false, false_and, and_false, not_true, not_false_iff, if_true, if_false, eq_self, Bool.false_eq_true, cl2_id, Bool.not_true, Bool.not_false]
    · unfold fX11_breaks
      simp (disch := omega) only [gd_e, fX11_isRib_e (hMd 1) hO, hv, nt_e, cl2_so, cl1_so, ck_tr, zl_0, zl_1, zl_2, zl_3, zl_4, zl_5, zl_6, zl_7, zl_8, zl_9, zl_10, zl_11, zl_12, zl_15, zl_16, zl_20, zl_24, zl_25, zl_30, zl_31, zl_32, zl_33, zl_44, zl_48, zl_50, zl_57, zl_59, zl_60, zl_61, zl_62, zl_63, zl_64, zl_68, zl_97, zl_99, zl_100, zl_104, zl_108, zl_114, zl_120, zl_122, zl_126, zl_132, zl_180, zl_181, zl_186, zl_255, zl_900, zl_930, zl_1000, zl_1000000, nI_add, pk_mul, zs_sub, zs_lt, zs_le, zs_eq, zs_inb, zs_cl, zm_eq, zm_eq2, zm_lt, zm_le, mz_lt, mz_le, mm_eq, zs_bit, zs_or1, zs_div, zs_rem, ck_pos, if_pos, if_neg, true_or, or_true, true_and, and_true, false_or, or_false, false_and, and_false, not_true, not_false_iff, if_true, if_false, eq_self, Bool.false_eq_true, cl2_id, Bool.not_true, Bool.not_false]
  · have hH := vN_H hv
    subst hH
    have hK : KO r s := hO rfl
    have hf := hK.1.1
    obtain ⟨f0, f1, f2, f3, f4⟩ := id hf
    obtain ⟨rib, b', rfl⟩ := vN_in (hK.1.2.1 0 (by decide)) hv
    have h60 := hK.s60
    have e := fX5_lacksRib_e (k := rib) (hC.2 rfl).2.2.1 h60 (by omega)
    have e1 := (hC.2 rfl).2.2.1
    by_cases he : nI (if (s 60).testBit rib then 1 else 0) = x2
    · refine ⟨nI 0, setI m 0 16 (nI 5), _, ?_, ?_, hW.deny hI (T := 5) (by decide)⟩
      · unfold fX10_breaks
        rw [cl2_e (fX10_noRib_e hC), hv]
        rw [if_pos (by decide), cl2_e e, if_pos he]
        simp (disch := omega) only [dn_e, cl2_so, cl1_so, ck_tr, zl_0, zl_1, zl_2, zl_3, zl_4, zl_5, zl_6, zl_7, zl_8, zl_9, zl_10, zl_11, zl_12, zl_15, zl_16, zl_20, zl_24, zl_25, zl_30, zl_31, zl_32, zl_33, zl_44, zl_48, zl_50, zl_57, zl_59, zl_60, zl_61, zl_62, zl_63, zl_64, zl_68, zl_97, zl_99, zl_100, zl_104, zl_108, zl_114, zl_120, zl_122, zl_126, zl_132, zl_180, zl_181, zl_186, zl_255, zl_900, zl_930, zl_1000, zl_1000000, nI_add, pk_mul, zs_sub, zs_lt, zs_le, zs_eq, zs_inb, zs_cl, zm_eq, zm_eq2, zm_lt, zm_le, mz_lt, mz_le, mm_eq, zs_bit, zs_or1, zs_div, zs_rem, ck_pos, if_pos, if_neg, true_or, or_true, true_and, and_true, false_or, or_false, false_and, and_false, not_true, not_false_iff, if_true, if_false, eq_self, Bool.false_eq_true, cl2_id, Bool.not_true, Bool.not_false]
      · have e3 := ((hMd 5).2 rfl).2 60 (by omega)
        have e4 := fX11_has_e (br := s 60) (k := rib) (by omega) (by omega) (gdM (setI m 0 16 (nI 5)))
        unfold fX11_breaks
        rw [gd_e, cl1_so, cl2_e (fX11_isRib_e (hMd 5) hO), hv, if_neg (by decide), e3, cl2_e e4, if_pos he]
        simp (disch := omega) only [nt_e, cl2_so, cl1_so, ck_tr, zl_0, zl_1, zl_2, zl_3, zl_4, zl_5, zl_6, zl_7, zl_8, zl_9, zl_10, zl_11, zl_12, zl_15, zl_16, zl_20, zl_24, zl_25, zl_30, zl_31, zl_32, zl_33, zl_44, zl_48, zl_50, zl_57, zl_59, zl_60, zl_61, zl_62, zl_63, zl_64, zl_68, zl_97, zl_99, zl_100, zl_104, zl_108, zl_114, zl_120, zl_122, zl_126, zl_132, zl_180, zl_181, zl_186, zl_255, zl_900, zl_930, zl_1000, zl_1000000, nI_add, pk_mul, zs_sub, zs_lt, zs_le, zs_eq, zs_inb, zs_cl, zm_eq, zm_eq2, zm_lt, zm_le, mz_lt, mz_le, mm_eq, zs_bit, zs_or1, zs_div, zs_rem, ck_pos, if_pos, if_neg, true_or, or_true, true_and, and_true, false_or, or_false, false_and, and_false, not_true, not_false_iff, if_true, if_false, eq_self, Bool.false_eq_true, cl2_id, Bool.not_true, Bool.not_false]
    · obtain ⟨mk, ek, k1, k2, u, e', hu, hue, k3, k4, k5⟩ := keep_e hU.1 hU.2.1 (nI 1) (nI 0) (nI (s 60))
      have hPk : CPs mk 81 r s := (hC.2 rfl).2.cg (fun a j q => k1 a j (by omega))
      have hMk : JM (gdM (setI (setI mk 81 1 (nI (s 60 ^^^ 2 ^ rib))) 0 16 (nI 0))) true r s := (hM.cg (fun a j q => ((sI_na (by omega)).trans (sI_na (by omega))).trans (k1 a j (by omega)))).ag (gd_ak _).agM
      have h21 : (gdM (setI (setI mk 81 1 (nI (s 60 ^^^ 2 ^ rib))) 0 16 (nI 0))).1 138 21 = nI U := ((gd_ak _).1 138 21 (by decide)).trans (((sI_na (by omega)).trans (sI_na (by omega))).trans ((k1 138 21 (by omega)).trans hU.2.2.1))
      obtain ⟨mn, en, n1, n2, u', e'', hu', hue', n3, n4, n5⟩ := note_e hU.1 h21 (hMk.2 rfl).2
      have esh : nI (s 60) ^^^ (nI 1 <<< (nI rib &&& nI 31)) = nI (s 60 ^^^ 2 ^ rib) := by rw [zs_sh1 (by omega), nI_xorN]
      refine ⟨nI 1, setI (setI mk 81 1 (nI (s 60 ^^^ 2 ^ rib))) 0 16 (nI 0), setI mn 143 60 (nI (s 60 ^^^ 2 ^ rib)), ?_, ?_, ?_⟩
      · unfold fX10_breaks
        rw [cl2_e (fX10_noRib_e hC), hv]
        rw [if_pos (by decide), cl2_e e, if_neg he, e1]
        have ek' : fX0_keep 1 0 (nI (s 60)) m = some mk := ek
        rw [cl1_e ek', hPk.2.1]
        have esh' : nI (s 60) ^^^ ((1 : Int32) <<< (nI rib &&& (31 : Int32))) = nI (s 60 ^^^ 2 ^ rib) := esh
        rw [esh']
        simp (disch := omega) only [al_e, cl2_so, cl1_so, ck_tr, zl_0, zl_1, zl_2, zl_3, zl_4, zl_5, zl_6, zl_7, zl_8, zl_9, zl_10, zl_11, zl_12, zl_15, zl_16, zl_20, zl_24, zl_25, zl_30, zl_31, zl_32, zl_33, zl_44, zl_48, zl_50, zl_57, zl_59, zl_60, zl_61, zl_62, zl_63, zl_64, zl_68, zl_97, zl_99, zl_100, zl_104, zl_108, zl_114, zl_120, zl_122, zl_126, zl_132, zl_180, zl_181, zl_186, zl_255, zl_900, zl_930, zl_1000, zl_1000000, nI_add, pk_mul, zs_sub, zs_lt, zs_le, zs_eq, zs_inb, zs_cl, zm_eq, zm_eq2, zm_lt, zm_le, mz_lt, mz_le, mm_eq, zs_bit, zs_or1, zs_div, zs_rem, ck_pos, if_pos, if_neg, true_or, or_true, true_and, and_true, false_or, or_false, false_and, and_false, not_true, not_false_iff, if_true, if_false, eq_self, Bool.false_eq_true, cl2_id, Bool.not_true, Bool.not_false]
      · have e3 := (hMk.2 rfl).2 60 (by omega)
        have e4 := fX11_has_e (br := s 60) (k := rib) (by omega) (by omega) (gdM (setI (setI mk 81 1 (nI (s 60 ^^^ 2 ^ rib))) 0 16 (nI 0)))
        have e5 : mn.1 143 60 = nI (s 60) := (n1 143 60 (by decide) (by decide)).trans e3
        have esh' : nI (s 60) ^^^ ((1 : Int32) <<< (nI rib &&& (31 : Int32))) = nI (s 60 ^^^ 2 ^ rib) := esh
        unfold fX11_breaks
        rw [gd_e, cl1_so, cl2_e (fX11_isRib_e hMk hO), hv, if_neg (by decide), e3, cl2_e e4, if_neg he, cl1_e en, e5, esh']
        rfl
      · have hP1 := hPk.s60 (s := fun k => if k = 60 then s 60 ^^^ 2 ^ rib else s k) hf (fun k _ h => if_neg h)
        rw [if_pos (c := 60 = 60) rfl] at hP1
        refine fin_act (m1 := setI (setI mk 81 1 (nI (s 60 ^^^ 2 ^ rib))) 0 16 (nI 0)) (s' := fun k => if k = 60 then s 60 ^^^ 2 ^ rib else s k) (ivT hI).2 hD hJ hF.2.2.2.1 hT hU hA k1 k2 hue k3 k4 k5 (fun a j z1 z2 => ?_) (fun _ _ _ => rfl) (hP1.cg (fun a j q => sI_na (by omega))) (gd_ak _).agM n1 n2 hue' n3 n4 n5 (fun a j z1 z2 => sI_na z2) (fun _ _ _ => rfl) (fun k hk => ?_) ⟨fun k hk => ?_, ?_, ?_, fun side' k z1 z2 z3 => ?_⟩ (fun z1 z2 z3 => Or.inr (Or.inl ⟨z1, z3, fun k hk hn => (if_neg hn).symm⟩)) ?_ ?_
        · rw [sI_1, if_neg (ns16 z2), sI_na (by omega)]
        · dsimp only
          by_cases q : k = 60
          · subst q
            rw [sI_eq, if_pos rfl]
          · rw [sI_nj q, n1 143 k (by decide) (by omega), if_neg q]
            exact (hMk.2 rfl).2 k hk
        · dsimp only
          rw [if_neg (by omega)]
          exact hK.2.1 k hk
        · dsimp only
          rw [if_pos rfl]
          exact Nat.xor_lt_two_pow hK.2.2.1 (Nat.pow_lt_pow_right (by decide) b')
        · dsimp only
          rw [if_neg (by omega)]
          exact hK.2.2.2.1
        · dsimp only
          rw [if_neg (by omega)]
          exact hK.2.2.2.2 side' k z1 z2 z3
        · rw [sI_na (by decide), n1 0 16 (by decide) (by decide), (gd_ak _).1 0 16 (by decide), sI_eq]
        · rw [sI_na (by decide), n1 138 11 (by decide) (by decide), gd_11]
end ACT3
