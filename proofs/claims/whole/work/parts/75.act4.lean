/-! open, flutter -/
section ACT4
variable {m : Me} {x1 x2 x3 x4 : Int32}
theorem vw0 (H : Bool) (r : Nat → Nat) (x : Int32) : vw H r (nI 0) x = if H then (if vO r x then 0 else 2) else 1 := by
  unfold vw
  cases H <;> rfl
theorem OKs.s61 {r s : Nat → Nat} (h : OKs r s) {op : Nat} (ho : op ≤ z_mo r) : OKs r (fun k => if k = 61 then op else s k) := by
  refine ⟨fun k hk => ?_, ?_, ?_, fun side k z1 z2 z3 => ?_⟩
  · dsimp only
    rw [if_neg (by omega)]
    exact h.1 k hk
  · dsimp only
    rw [if_neg (by omega)]
    exact h.2.1
  · dsimp only
    rw [if_pos rfl]
    exact ho
  · dsimp only
    rw [if_neg (by omega)]
    exact h.2.2.2 side k z1 z2 z3
theorem WI.no {m : Me} (hI : Inv m) (hW : WI m) {T : Nat} (hT : T ≤ 6 ∧ T ≠ 4) : WI (setI (gdM (setI m 0 16 (nI T))) 138 11 (nI T)) := hW.deny hI hT
theorem t_open (hI : Inv m) (hW : WI m) : Two (fX10_open x1) (fX11_open x1) m := by
  obtain ⟨H, r, s, T, L, b, U, ss, A, im, hJ, hF, hT, hU, hA, hN, hD⟩ := id hW
  obtain ⟨hC, hM, hO, hS⟩ := id hJ
  have hMd : ∀ T, JM (gdM (setI m 0 16 (nI T))) H r s := fun T => hM.ag (((Ak.rf m).set (sc := sC) (nI T) (by decide)).agC.tr (gd_ak _).agM)
  have hw := vw0 H r x1
  cases H
  · refine ⟨-nI 1, setI m 0 16 (nI 1), _, ?_, ?_, hW.no hI (T := 1) (by decide)⟩
    · unfold fX10_open
      simp (disch := omega) only [fX10_wrongView_e hC hO, hw, rf_e, cl2_so, cl1_so, ck_tr, zl_0, zl_1, zl_2, zl_3, zl_4, zl_5, zl_6, zl_7, zl_8, zl_9, zl_10, zl_11, zl_12, zl_15, zl_16, zl_20, zl_24, zl_25, zl_30, zl_31, zl_32, zl_33, zl_44, zl_48, zl_50, zl_57, zl_59, zl_60, zl_61, zl_62, zl_63, zl_64, zl_68, zl_97, zl_99, zl_100, zl_104, zl_108, zl_114, zl_120, zl_122, zl_126, zl_132, zl_180, zl_181, zl_186, zl_255, zl_900, zl_930, zl_1000, zl_1000000, nI_add, pk_mul, zs_sub, zs_lt, zs_le, zs_eq, zs_inb, zs_cl, zm_eq, zm_eq2, zm_lt, zm_le, mz_lt, mz_le, mm_eq, zs_bit, zs_or1, zs_div, zs_rem, ck_pos, if_pos, if_neg, true_or, or_true, true_and, and_true, false_or, or_false, false_and, and_false, not_true, not_false_iff, if_true, if_false, eq_self, Bool.false_eq_true, cl2_id, Bool.not_true, Bool.not_false]
    · have e3 : (gdM (setI m 0 16 (nI 1))).1 138 14 = nI 0 := (hMd 1).1
      unfold fX11_open
      simp (disch := omega) only [gd_e, e3, mno_e, cl2_so, cl1_so, ck_tr, zl_0, zl_1, zl_2, zl_3, zl_4, zl_5, zl_6, zl_7, zl_8, zl_9, zl_10, zl_11, zl_12, zl_15, zl_16, zl_20, zl_24, zl_25, zl_30, zl_31, zl_32, zl_33, zl_44, zl_48, zl_50, zl_57, zl_59, zl_60, zl_61, zl_62, zl_63, zl_64, zl_68, zl_97, zl_99, zl_100, zl_104, zl_108, zl_114, zl_120, zl_122, zl_126, zl_132, zl_180, zl_181, zl_186, zl_255, zl_900, zl_930, zl_1000, zl_1000000, nI_add, pk_mul, zs_sub, zs_lt, zs_le, zs_eq, zs_inb, zs_cl, zm_eq, zm_eq2, zm_lt, zm_le, mz_lt, mz_le, mm_eq, zs_bit, zs_or1, zs_div, zs_rem, ck_pos, if_pos, if_neg, true_or, or_true, true_and, and_true, false_or, or_false, false_and, and_false, not_true, not_false_iff, if_true, if_false, eq_self, Bool.false_eq_true, cl2_id, Bool.not_true, Bool.not_false]
  · have hK : KO r s := hO rfl
    have hf := hK.1.1
    have hz := z_mo_le hf
    have h14 : ∀ T, (gdM (setI m 0 16 (nI T))).1 138 14 = nI 1 := fun T => (hMd T).1
    cases hv : vO r x1
    · refine ⟨-nI 1, setI m 0 16 (nI 2), _, ?_, ?_, hW.no hI (T := 2) (by decide)⟩
      · unfold fX10_open
        simp (disch := omega) only [fX10_wrongView_e hC hO, hw, hv, rf_e, cl2_so, cl1_so, ck_tr, zl_0, zl_1, zl_2, zl_3, zl_4, zl_5, zl_6, zl_7, zl_8, zl_9, zl_10, zl_11, zl_12, zl_15, zl_16, zl_20, zl_24, zl_25, zl_30, zl_31, zl_32, zl_33, zl_44, zl_48, zl_50, zl_57, zl_59, zl_60, zl_61, zl_62, zl_63, zl_64, zl_68, zl_97, zl_99, zl_100, zl_104, zl_108, zl_114, zl_120, zl_122, zl_126, zl_132, zl_180, zl_181, zl_186, zl_255, zl_900, zl_930, zl_1000, zl_1000000, nI_add, pk_mul, zs_sub, zs_lt, zs_le, zs_eq, zs_inb, zs_cl, zm_eq, zm_eq2, zm_lt, zm_le, mz_lt, mz_le, mm_eq, zs_bit, zs_or1, zs_div, zs_rem, ck_pos, if_pos, if_neg, true_or, or_true, true_and, and_true, false_or, or_false, false_and, and_false, not_true, not_false_iff, if_true, if_false, eq_self, Bool.false_eq_true, cl2_id, Bool.not_true, Bool.not_false]
      · unfold fX11_open
        simp (disch := omega) only [gd_e, h14, fX11_isOpening_e (hMd 2) hO, hv, mno_e, cl2_so, cl1_so, ck_tr, zl_0, zl_1, zl_2, zl_3, zl_4, zl_5, zl_6, zl_7, zl_8, zl_9, zl_10, zl_11, zl_12, zl_15, zl_16, zl_20, zl_24, zl_25, zl_30, zl_31, zl_32, zl_33, zl_44, zl_48, zl_50, zl_57, zl_59, zl_60, zl_61, zl_62, zl_63, zl_64, zl_68, zl_97, zl_99, zl_100, zl_104, zl_108, zl_114, zl_120, zl_122, zl_126, zl_132, zl_180, zl_181, zl_186, zl_255, zl_900, zl_930, zl_1000, zl_1000000, nI_add, pk_mul, zs_sub, zs_lt, zs_le, zs_eq, zs_inb, zs_cl, zm_eq, zm_eq2, zm_lt, zm_le, mz_lt, mz_le, mm_eq, zs_bit, zs_or1, zs_div, zs_rem, ck_pos, if_pos, if_neg, true_or, or_true, true_and, and_true, false_or, or_false, false_and, and_false, not_true, not_false_iff, if_true, if_false, eq_self, Bool.false_eq_true, cl2_id, Bool.not_true, Bool.not_false]
    · obtain ⟨op, ho, rfl⟩ := vO_out hz hv
      have e1 := (hC.2 rfl).2.2.2.1
      have h61 := hK.2.2.2.1
      by_cases he : s 61 = op
      · refine ⟨-nI 1, setI m 0 16 (nI 5), _, ?_, ?_, hW.no hI (T := 5) (by decide)⟩
        · unfold fX10_open
          simp (disch := omega) only [fX10_wrongView_e hC hO, hw, hv, rf_e, e1, he, cl2_so, cl1_so, ck_tr, zl_0, zl_1, zl_2, zl_3, zl_4, zl_5, zl_6, zl_7, zl_8, zl_9, zl_10, zl_11, zl_12, zl_15, zl_16, zl_20, zl_24, zl_25, zl_30, zl_31, zl_32, zl_33, zl_44, zl_48, zl_50, zl_57, zl_59, zl_60, zl_61, zl_62, zl_63, zl_64, zl_68, zl_97, zl_99, zl_100, zl_104, zl_108, zl_114, zl_120, zl_122, zl_126, zl_132, zl_180, zl_181, zl_186, zl_255, zl_900, zl_930, zl_1000, zl_1000000, nI_add, pk_mul, zs_sub, zs_lt, zs_le, zs_eq, zs_inb, zs_cl, zm_eq, zm_eq2, zm_lt, zm_le, mz_lt, mz_le, mm_eq, zs_bit, zs_or1, zs_div, zs_rem, ck_pos, if_pos, if_neg, true_or, or_true, true_and, and_true, false_or, or_false, false_and, and_false, not_true, not_false_iff, if_true, if_false, eq_self, Bool.false_eq_true, cl2_id, Bool.not_true, Bool.not_false]
        · have e3 := ((hMd 5).2 rfl).2 61 (by omega)
          unfold fX11_open
          simp (disch := omega) only [gd_e, h14, fX11_isOpening_e (hMd 5) hO, hv, mno_e, e3, he, cl2_so, cl1_so, ck_tr, zl_0, zl_1, zl_2, zl_3, zl_4, zl_5, zl_6, zl_7, zl_8, zl_9, zl_10, zl_11, zl_12, zl_15, zl_16, zl_20, zl_24, zl_25, zl_30, zl_31, zl_32, zl_33, zl_44, zl_48, zl_50, zl_57, zl_59, zl_60, zl_61, zl_62, zl_63, zl_64, zl_68, zl_97, zl_99, zl_100, zl_104, zl_108, zl_114, zl_120, zl_122, zl_126, zl_132, zl_180, zl_181, zl_186, zl_255, zl_900, zl_930, zl_1000, zl_1000000, nI_add, pk_mul, zs_sub, zs_lt, zs_le, zs_eq, zs_inb, zs_cl, zm_eq, zm_eq2, zm_lt, zm_le, mz_lt, mz_le, mm_eq, zs_bit, zs_or1, zs_div, zs_rem, ck_pos, if_pos, if_neg, true_or, or_true, true_and, and_true, false_or, or_false, false_and, and_false, not_true, not_false_iff, if_true, if_false, eq_self, Bool.false_eq_true, cl2_id, Bool.not_true, Bool.not_false]
      · have hO' := hK.2.s61 ho
        have hK' : KO r (fun k => if k = 61 then op else s k) := ⟨hK.1, hO'⟩
        obtain ⟨mk, ek, k1, k2, u, e, hu, hue, k3, k4, k5⟩ := keep_e hU.1 hU.2.1 (nI 2) (nI 0) (nI (s 61))
        have hPk : CPs mk 81 r s := (hC.2 rfl).2.cg (fun a j q => k1 a j (by omega))
        have hP1 := hPk.s61 (s := fun k => if k = 61 then op else s k) hf (fun k _ h => if_neg h)
        rw [if_pos (c := 61 = 61) rfl] at hP1
        have ht := kd2_two (ivT hI).2
        have hKC : KC (setI mk 81 2 (nI op)) (rr m 0 3) r (fun k => if k = 61 then op else s k) := by
          refine ⟨?_, (ivT hI).2, (hC.2 rfl).1.cg hK.1 (fun a j y z => (sI_na (by omega)).trans (k1 a j (by omega))), hP1, ?_⟩
          · unfold Jvm.Pilot.CFanPartsLaw_law_r1864_615eae.rr
            rw [show (setI mk 81 2 (nI op)).2 = m.2 from k2]
          · rw [sI_na (by decide), k1 0 4 (by omega)]
            exact hC.1
        obtain ⟨ml, el, g1, g2, g3, g4⟩ := hKC.lookAt hK' (side := 0) (op := op) (by omega) ho
        have e6 : (if 60 = 61 then op else s 60) = s 60 := if_neg (by decide)
        rw [e6] at g3 g4
        have hMl : JM (gdM (setI ml 0 16 (nI 0))) true r s := by
          refine (JM.cg (m := m) (m' := setI ml 0 16 (nI 0)) hM (fun a j q => ?_)).ag (gd_ak _).agM
          rw [sI_na (by omega), g1.agC.1 a j (scr_f (by omega)), sI_na (by omega), k1 a j (by omega)]
        have h21 : (gdM (setI ml 0 16 (nI 0))).1 138 21 = nI U := by
          rw [(gd_ak _).1 138 21 (by decide), sI_na (by decide), g1.agC.1 138 21 (scr_f (by omega)), sI_na (by decide), k1 138 21 (by omega)]
          exact hU.2.2.1
        obtain ⟨mn, en, n1, n2, u', e', hu', hue', n3, n4, n5⟩ := note_e hU.1 h21 (hMl.2 rfl).2
        have hMn : JM mn true r s := hMl.cg (fun a j q => n1 a j (by omega) (by omega))
        have hKM : KM (setI mn 143 61 (nI op)) r (fun k => if k = 61 then op else s k) := by
          refine ⟨?_, fun k hk => ?_, fun k hk => ?_⟩
          · rw [sI_na (by decide)]
            exact hMn.1
          · rw [sI_na (by decide)]
            exact (hMn.2 rfl).1 k hk
          · dsimp only
            by_cases q : k = 61
            · subst q
              rw [sI_eq, if_pos rfl]
            · rw [sI_nj q, if_neg q]
              exact (hMn.2 rfl).2 k hk
        have ely := hKM.layNow hK' (side := 0) (op := op) (by omega) ho
        rw [e6] at ely
        refine ⟨nI (z_show r 0 op (s 60)).length, setI ml 0 16 (nI 0), wl (setI mn 143 61 (nI op)) 147 0 (z_show r 0 op (s 60)), ?_, ?_, ?_⟩
        · have e8 : ml.1 88 2 = nI (z_show r 0 op (s 60)).length := by rw [g3.1, zT_len]
          have em : fX10_moveTo (nI op) m = some (setI mk 81 2 (nI op)) := by
            unfold fX10_moveTo
            simp (disch := omega) only [e1, ek, cl2_so, cl1_so, ck_tr, zl_0, zl_1, zl_2, zl_3, zl_4, zl_5, zl_6, zl_7, zl_8, zl_9, zl_10, zl_11, zl_12, zl_15, zl_16, zl_20, zl_24, zl_25, zl_30, zl_31, zl_32, zl_33, zl_44, zl_48, zl_50, zl_57, zl_59, zl_60, zl_61, zl_62, zl_63, zl_64, zl_68, zl_97, zl_99, zl_100, zl_104, zl_108, zl_114, zl_120, zl_122, zl_126, zl_132, zl_180, zl_181, zl_186, zl_255, zl_900, zl_930, zl_1000, zl_1000000, nI_add, pk_mul, zs_sub, zs_lt, zs_le, zs_eq, zs_inb, zs_cl, zm_eq, zm_eq2, zm_lt, zm_le, mz_lt, mz_le, mm_eq, zs_bit, zs_or1, zs_div, zs_rem, ck_pos, if_pos, if_neg, true_or, or_true, true_and, and_true, false_or, or_false, false_and, and_false, not_true, not_false_iff, if_true, if_false, eq_self, Bool.false_eq_true, cl2_id, Bool.not_true, Bool.not_false]
          unfold fX10_open
          simp (disch := omega) only [fX10_wrongView_e hC hO, hw, hv, e1, he, em, el, e8, an_e, cl2_so, cl1_so, ck_tr, zl_0, zl_1, zl_2, zl_3, zl_4, zl_5, zl_6, zl_7, zl_8, zl_9, zl_10, zl_11, zl_12, zl_15, zl_16, zl_20, zl_24, zl_25, zl_30, zl_31, zl_32, zl_33, zl_44, zl_48, zl_50, zl_57, zl_59, zl_60, zl_61, zl_62, zl_63, zl_64, zl_68, zl_97, zl_99, zl_100, zl_104, zl_108, zl_114, zl_120, zl_122, zl_126, zl_132, zl_180, zl_181, zl_186, zl_255, zl_900, zl_930, zl_1000, zl_1000000, nI_add, pk_mul, zs_sub, zs_lt, zs_le, zs_eq, zs_inb, zs_cl, zm_eq, zm_eq2, zm_lt, zm_le, mz_lt, mz_le, mm_eq, zs_bit, zs_or1, zs_div, zs_rem, ck_pos, if_pos, if_neg, true_or, or_true, true_and, and_true, false_or, or_false, false_and, and_false, not_true, not_false_iff, if_true, if_false, eq_self, Bool.false_eq_true, cl2_id, Bool.not_true, Bool.not_false]
        · have e3 := (hMl.2 rfl).2 61 (by omega)
          have e4 : (gdM (setI ml 0 16 (nI 0))).1 138 14 = nI 1 := hMl.1
          unfold fX11_open
          simp (disch := omega) only [gd_e, e4, fX11_isOpening_e hMl hO, hv, e3, he, en, ely, cl2_so, cl1_so, ck_tr, zl_0, zl_1, zl_2, zl_3, zl_4, zl_5, zl_6, zl_7, zl_8, zl_9, zl_10, zl_11, zl_12, zl_15, zl_16, zl_20, zl_24, zl_25, zl_30, zl_31, zl_32, zl_33, zl_44, zl_48, zl_50, zl_57, zl_59, zl_60, zl_61, zl_62, zl_63, zl_64, zl_68, zl_97, zl_99, zl_100, zl_104, zl_108, zl_114, zl_120, zl_122, zl_126, zl_132, zl_180, zl_181, zl_186, zl_255, zl_900, zl_930, zl_1000, zl_1000000, nI_add, pk_mul, zs_sub, zs_lt, zs_le, zs_eq, zs_inb, zs_cl, zm_eq, zm_eq2, zm_lt, zm_le, mz_lt, mz_le, mm_eq, zs_bit, zs_or1, zs_div, zs_rem, ck_pos, if_pos, if_neg, true_or, or_true, true_and, and_true, false_or, or_false, false_and, and_false, not_true, not_false_iff, if_true, if_false, eq_self, Bool.false_eq_true, cl2_id, Bool.not_true, Bool.not_false]
        · refine fin_act (s' := fun k => if k = 61 then op else s k) (ivT hI).2 hD hJ hF.2.2.2.1 hT hU hA k1 k2 hue k3 k4 k5 (m1 := setI ml 0 16 (nI 0)) (fun a j z1 z2 => ?_) ?_ (hP1.cg (fun a j q => ?_)) (gd_ak _).agM n1 n2 hue' n3 n4 n5 (fun a j z1 z2 => ?_) (fun _ _ _ => rfl) (fun k hk => ?_) hO' (fun z1 z2 z3 => Or.inr (Or.inr ⟨z1, z3, fun k hk hn => (if_neg hn).symm⟩)) ?_ ?_
          · rw [sI_1, if_neg (ns16 z2), g1.agC.1 a j z2, sI_na (by omega)]
          · exact fun a j h => g1.2 a j h
          · rw [sI_na (by omega), g1.agC.1 a j (scr_f (by omega))]
          · rw [wl_na, sI_na z2]
            rintro rfl
            exact absurd z1 (by rw [show scr 147 j = true by unfold scr; simp]; decide)
          · rw [wl_na (by decide)]
            exact hKM.2.2 k hk
          · rw [wl_na (by decide), sI_na (by decide), n1 0 16 (by decide) (by decide), (gd_ak _).1 0 16 (by decide), sI_eq]
          · rw [wl_na (by decide), sI_na (by decide), n1 138 11 (by decide) (by decide), gd_11]
theorem Ak.sC_keep {m m' : Me} (h : Ak sC m m') (a j : Nat) (q : scr a j = false) : m'.1 a j = m.1 a j := h.agC.1 a j q
theorem t_flutter (hI : Inv m) (hW : WI m) : Two fX10_flutter fX11_flutter m := by
  obtain ⟨H, r, s, T, L, b, U, ss, A, im, hJ, hF, hT, hU, hA, hN, hD⟩ := id hW
  obtain ⟨hC, hM, hO, hS⟩ := id hJ
  have hMd : ∀ T, JM (gdM (setI m 0 16 (nI T))) H r s := fun T => hM.ag (((Ak.rf m).set (sc := sC) (nI T) (by decide)).agC.tr (gd_ak _).agM)
  by_cases hv : vb H r = 0
  · have h1 : H = true ∧ r 8 ≠ 0 := by
      unfold vb at hv
      cases H
      · cases hv
      · refine ⟨rfl, fun q => ?_⟩
        rw [if_pos rfl, if_pos q] at hv
        cases hv
    obtain ⟨rfl, h0⟩ := h1
    have hK : KO r s := hO rfl
    have hf := hK.1.1
    have h8 := hK.1.2.2.2.2.2.2.1
    have h61 := hK.2.2.2.1
    have hb := hK.1.2.2.2.2.2.2.2.2.2.2.1
    have ht := kd2_two (ivT hI).2
    have op := hb (r 8 - 1) (by omega)
    obtain ⟨ma, ea, a1, a2, -⟩ := (hC.kc hI).smear hK (side := 0) (v := s 61) (w := r 180) (by omega) h61 (hb 0 (by omega))
    obtain ⟨mb, eb, b1, b2⟩ := a2.beats hK h0
    have c1 : ∀ a j, scr a j = false → mb.1 a j = m.1 a j := fun a j q => (b1.sC_keep a j q).trans (a1.sC_keep a j q)
    have c2 : mb.2 0 3 = m.2 0 3 := (b1.2 0 3 (by decide)).trans (a1.2 0 3 (by decide))
    have hU2 : UN mb r s U ss := hU.cg (fun a j q => c1 a j (scr_f (by omega)))
    have hO' := hK.2.s61 op
    obtain ⟨mk, ek, k1, k2, u, e, hu, hue, k3, k4, k5⟩ := keep_e hU2.1 hU2.2.1 (nI 2) (nI 0) (nI (s 61))
    have hPk : CPs mk 81 r s := b2.2.2.2.1.cg (fun a j q => k1 a j (by omega))
    have hP1 := hPk.s61 (s := fun k => if k = 61 then r (180 + (r 8 - 1)) else s k) hf (fun k _ h => if_neg h)
    rw [if_pos (c := 61 = 61) rfl] at hP1
    have hMl : JM (gdM (setI (setI mk 81 2 (nI (r (180 + (r 8 - 1))))) 0 16 (nI 0))) true r s := by
      refine (JM.cg (m := m) (m' := setI (setI mk 81 2 (nI (r (180 + (r 8 - 1))))) 0 16 (nI 0)) hM (fun a j q => ?_)).ag (gd_ak _).agM
      rw [sI_na (by omega), sI_na (by omega), k1 a j (by omega), c1 a j (scr_f (by omega))]
    have h21 : (gdM (setI (setI mk 81 2 (nI (r (180 + (r 8 - 1))))) 0 16 (nI 0))).1 138 21 = nI U := by
      rw [(gd_ak _).1 138 21 (by decide), sI_na (by decide), sI_na (by decide), k1 138 21 (by omega)]
      exact hU2.2.2.1
    obtain ⟨mn, en, n1, n2, u', e', hu', hue', n3, n4, n5⟩ := note_e hU.1 h21 (hMl.2 rfl).2
    have hMn : JM mn true r s := hMl.cg (fun a j q => n1 a j (by omega) (by omega))
    obtain ⟨mc, ec, d1, d2, -⟩ := hMn.km.smear hK (side := 0) (v := s 61) (w := r 180) (by omega) h61 (hb 0 (by omega))
    obtain ⟨md, ed, f1, f2⟩ := d2.beats hK h0
    refine ⟨nI (sm r s 0 (s 61) (r 180) + zbs r s 1 (r 8 - 1)), setI (setI mk 81 2 (nI (r (180 + (r 8 - 1))))) 0 16 (nI 0), setI md 143 61 (nI (r (180 + (r 8 - 1)))), ?_, ?_, ?_⟩
    · have e1 := (hC.2 rfl).2.2.2.1
      have e2 : m.1 (rr m 0 3 + 6) 0 = nI (r 180) := (hC.kc hI).beat (b := 0) (by omega)
      have e3 := b2.2.2.1.2.1.2.2.2.2
      have e4 := b2.beat (b := r 8 - 1) (by omega)
      have e5 := b2.2.2.2.1.2.2.1
      have em : ∀ op, fX10_moveTo (nI op) mb = some (setI mk 81 2 (nI op)) := by
        intro op
        unfold fX10_moveTo
        simp (disch := omega) only [e5, ek, cl2_so, cl1_so, ck_tr, zl_0, zl_1, zl_2, zl_3, zl_4, zl_5, zl_6, zl_7, zl_8, zl_9, zl_10, zl_11, zl_12, zl_15, zl_16, zl_20, zl_24, zl_25, zl_30, zl_31, zl_32, zl_33, zl_44, zl_48, zl_50, zl_57, zl_59, zl_60, zl_61, zl_62, zl_63, zl_64, zl_68, zl_97, zl_99, zl_100, zl_104, zl_108, zl_114, zl_120, zl_122, zl_126, zl_132, zl_180, zl_181, zl_186, zl_255, zl_900, zl_930, zl_1000, zl_1000000, nI_add, pk_mul, zs_sub, zs_lt, zs_le, zs_eq, zs_inb, zs_cl, zm_eq, zm_eq2, zm_lt, zm_le, mz_lt, mz_le, mm_eq, zs_bit, zs_or1, zs_div, zs_rem, ck_pos, if_pos, if_neg, true_or, or_true, true_and, and_true, false_or, or_false, false_and, and_false, not_true, not_false_iff, if_true, if_false, eq_self, Bool.false_eq_true, cl2_id, Bool.not_true, Bool.not_false]
      unfold fX10_flutter
      simp (disch := omega) only [fX10_wrongBeats_e hC hO, hv, e1, e2, ea, eb, b2.1, e3, e4, em, an_e, cl2_so, cl1_so, ck_tr, zl_0, zl_1, zl_2, zl_3, zl_4, zl_5, zl_6, zl_7, zl_8, zl_9, zl_10, zl_11, zl_12, zl_15, zl_16, zl_20, zl_24, zl_25, zl_30, zl_31, zl_32, zl_33, zl_44, zl_48, zl_50, zl_57, zl_59, zl_60, zl_61, zl_62, zl_63, zl_64, zl_68, zl_97, zl_99, zl_100, zl_104, zl_108, zl_114, zl_120, zl_122, zl_126, zl_132, zl_180, zl_181, zl_186, zl_255, zl_900, zl_930, zl_1000, zl_1000000, nI_add, pk_mul, zs_sub, zs_lt, zs_le, zs_eq, zs_inb, zs_cl, zm_eq, zm_eq2, zm_lt, zm_le, mz_lt, mz_le, mm_eq, zs_bit, zs_or1, zs_div, zs_rem, ck_pos, if_pos, if_neg, true_or, or_true, true_and, and_true, false_or, or_false, false_and, and_false, not_true, not_false_iff, if_true, if_false, eq_self, Bool.false_eq_true, cl2_id, Bool.not_true, Bool.not_false]
    · have e1 := (hMn.2 rfl).2 61 (by omega)
      have e2 := (hMn.2 rfl).1 180 (by omega)
      have e3 := f2.2.1 8 (by omega)
      have e4 := f2.2.1 (180 + (r 8 - 1)) (by omega)
      unfold fX11_flutter
      simp (disch := omega) only [gd_e, fX11_beatWhy_e hMl hO, hv, en, e1, e2, ec, ed, e3, Nat.add_sub_assoc, e4, cl2_so, cl1_so, ck_tr, zl_0, zl_1, zl_2, zl_3, zl_4, zl_5, zl_6, zl_7, zl_8, zl_9, zl_10, zl_11, zl_12, zl_15, zl_16, zl_20, zl_24, zl_25, zl_30, zl_31, zl_32, zl_33, zl_44, zl_48, zl_50, zl_57, zl_59, zl_60, zl_61, zl_62, zl_63, zl_64, zl_68, zl_97, zl_99, zl_100, zl_104, zl_108, zl_114, zl_120, zl_122, zl_126, zl_132, zl_180, zl_181, zl_186, zl_255, zl_900, zl_930, zl_1000, zl_1000000, nI_add, pk_mul, zs_sub, zs_lt, zs_le, zs_eq, zs_inb, zs_cl, zm_eq, zm_eq2, zm_lt, zm_le, mz_lt, mz_le, mm_eq, zs_bit, zs_or1, zs_div, zs_rem, ck_pos, if_pos, if_neg, true_or, or_true, true_and, and_true, false_or, or_false, false_and, and_false, not_true, not_false_iff, if_true, if_false, eq_self, Bool.false_eq_true, cl2_id, Bool.not_true, Bool.not_false]
    · have kk : kd (rr mb 0 3) = 2 := by rw [b2.1]; exact (ivT hI).2
      have hJ2 : WJ mb true r s := ⟨⟨(c1 0 4 (by decide)).trans hC.1, fun _ => ⟨by rw [b2.1]; exact b2.2.2.1, b2.2.2.2.1⟩⟩, hM.cg (fun a j q => c1 a j (scr_f (by omega))), hO, fun q => (hS q).cg (fun a j _ _ => c1 a j (scr_f (by omega)))⟩
      have hD2 : rr mb 1 2 ≠ rr mb 0 3 := dj_of hD (fun a j h => (b1.2 a j h).trans (a1.2 a j h))
      have hF2 : mb.1 138 9 = mb.1 1 8 := by rw [c1 138 9 (by decide), c1 1 8 (by decide)]; exact hF.2.2.2.1
      refine fin_act (m1 := setI (setI mk 81 2 (nI (r (180 + (r 8 - 1))))) 0 16 (nI 0)) (s' := fun k => if k = 61 then r (180 + (r 8 - 1)) else s k) kk hD2 hJ2 hF2 (hT.cg (fun a j q => c1 a j (scr_f (by omega)))) hU2 (hA.cg (fun a j q => c1 a j (scr_f (by omega)))) k1 k2 hue k3 k4 k5 (fun a j z1 z2 => ?_) (fun _ _ _ => rfl) (hP1.cg (fun a j q => sI_na (by omega))) (gd_ak _).agM n1 n2 hue' n3 n4 n5 (fun a j z1 z2 => ?_) ?_ (fun k hk => ?_) hO' (fun z1 z2 z3 => Or.inr (Or.inr ⟨z1, z3, fun k hk hn => (if_neg hn).symm⟩)) ?_ ?_
      · rw [sI_1, if_neg (ns16 z2), sI_na (by omega)]
      · rw [sI_na z2, f1.agN.1 a j z1, d1.agN.1 a j z1]
      · exact fun a j h => (f1.2 a j h).trans (d1.2 a j h)
      · dsimp only
        by_cases q : k = 61
        · subst q
          rw [sI_eq, if_pos rfl]
        · rw [sI_nj q, if_neg q]
          exact f2.2.2 k hk
      · rw [sI_na (by decide), f1.1 0 16 (by decide), d1.1 0 16 (by decide), n1 0 16 (by decide) (by decide), (gd_ak _).1 0 16 (by decide), sI_eq]
      · rw [sI_na (by decide), f1.1 138 11 (by decide), d1.1 138 11 (by decide), n1 138 11 (by decide) (by decide), gd_11]
  · have h4 := vb_4 H r
    refine ⟨-nI 1, setI m 0 16 (nI (vb H r)), _, ?_, ?_, hW.no hI (T := vb H r) h4⟩
    · unfold fX10_flutter
      simp (disch := omega) only [fX10_wrongBeats_e hC hO, hv, rf_e, cl2_so, cl1_so, ck_tr, zl_0, zl_1, zl_2, zl_3, zl_4, zl_5, zl_6, zl_7, zl_8, zl_9, zl_10, zl_11, zl_12, zl_15, zl_16, zl_20, zl_24, zl_25, zl_30, zl_31, zl_32, zl_33, zl_44, zl_48, zl_50, zl_57, zl_59, zl_60, zl_61, zl_62, zl_63, zl_64, zl_68, zl_97, zl_99, zl_100, zl_104, zl_108, zl_114, zl_120, zl_122, zl_126, zl_132, zl_180, zl_181, zl_186, zl_255, zl_900, zl_930, zl_1000, zl_1000000, nI_add, pk_mul, zs_sub, zs_lt, zs_le, zs_eq, zs_inb, zs_cl, zm_eq, zm_eq2, zm_lt, zm_le, mz_lt, mz_le, mm_eq, zs_bit, zs_or1, zs_div, zs_rem, ck_pos, if_pos, if_neg, true_or, or_true, true_and, and_true, false_or, or_false, false_and, and_false, not_true, not_false_iff, if_true, if_false, eq_self, Bool.false_eq_true, cl2_id, Bool.not_true, Bool.not_false]
    · unfold fX11_flutter
      simp (disch := omega) only [gd_e, fX11_beatWhy_e (hMd _) hO, hv, mno_e, cl2_so, cl1_so, ck_tr, zl_0, zl_1, zl_2, zl_3, zl_4, zl_5, zl_6, zl_7, zl_8, zl_9, zl_10, zl_11, zl_12, zl_15, zl_16, zl_20, zl_24, zl_25, zl_30, zl_31, zl_32, zl_33, zl_44, zl_48, zl_50, zl_57, zl_59, zl_60, zl_61, zl_62, zl_63, zl_64, zl_68, zl_97, zl_99, zl_100, zl_104, zl_108, zl_114, zl_120, zl_122, zl_126, zl_132, zl_180, zl_181, zl_186, zl_255, zl_900, zl_930, zl_1000, zl_1000000, nI_add, pk_mul, zs_sub, zs_lt, zs_le, zs_eq, zs_inb, zs_cl, zm_eq, zm_eq2, zm_lt, zm_le, mz_lt, mz_le, mm_eq, zs_bit, zs_or1, zs_div, zs_rem, ck_pos, if_pos, if_neg, true_or, or_true, true_and, and_true, false_or, or_false, false_and, and_false, not_true, not_false_iff, if_true, if_false, eq_self, Bool.false_eq_true, cl2_id, Bool.not_true, Bool.not_false]
end ACT4
