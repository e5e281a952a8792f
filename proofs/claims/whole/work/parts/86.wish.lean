/-! views; wishes -/
section WISH
variable {N : Nat} {b : Nat → Nat} {mc mm c0 d0 m : Me} {a n κ t a' n' κ' : Nat} {r s : Nat → Nat}
theorem mo_e (h0 : m.1 142 0 = nI (r 0)) (h1 : m.1 142 1 = nI (r 1)) (h3 : m.1 142 3 = nI (r 3)) (hf : z_fan r) : fX11_mostOpen 142 m = some (nI (z_mo r), m) := by
  obtain ⟨f0, f1, f2, f3, f4⟩ := id hf
  have hz := z_mo_le hf
  have hm : r 1 * (r 0 - 1) ≤ 27 := Nat.le_trans (Nat.mul_le_mul f3 (by omega : r 0 - 1 ≤ 9)) (by decide)
  unfold fX11_mostOpen fX11_mostOpen_22 z_mo
  have l1 : ln 142 = 186 := rfl
  by_cases q : r 3 = 1
  · simp (disch := omega) only [h0, h1, h3, q, l1, cl2_so, cl1_so, ck_tr, zl_0, zl_1, zl_2, zl_3, zl_4, zl_5, zl_6, zl_7, zl_8, zl_9, zl_10, zl_11, zl_12, zl_15, zl_16, zl_20, zl_24, zl_25, zl_30, zl_31, zl_32, zl_33, zl_44, zl_48, zl_50, zl_57, zl_59, zl_60, zl_61, zl_62, zl_63, zl_64, zl_68, zl_97, zl_99, zl_100, zl_104, zl_108, zl_114, zl_120, zl_122, zl_126, zl_132, zl_180, zl_181, zl_186, zl_255, zl_900, zl_930, zl_1000, zl_1000000, nI_add, pk_mul, zs_sub, zs_lt, zs_le, zs_eq, zs_inb, zs_cl, zm_eq, zm_eq2, zm_lt, zm_le, mz_lt, mz_le, mm_eq, zs_bit, zs_or1, zs_div, zs_rem, ck_pos, if_pos, if_neg, true_or, or_true, true_and, and_true, false_or, or_false, false_and, and_false, not_true, not_false_iff, if_true, if_false, eq_self, Bool.false_eq_true, cl2_id, Bool.not_true, Bool.not_false]
  · simp (disch := omega) only [h0, h1, h3, q, l1, cl2_so, cl1_so, ck_tr, zl_0, zl_1, zl_2, zl_3, zl_4, zl_5, zl_6, zl_7, zl_8, zl_9, zl_10, zl_11, zl_12, zl_15, zl_16, zl_20, zl_24, zl_25, zl_30, zl_31, zl_32, zl_33, zl_44, zl_48, zl_50, zl_57, zl_59, zl_60, zl_61, zl_62, zl_63, zl_64, zl_68, zl_97, zl_99, zl_100, zl_104, zl_108, zl_114, zl_120, zl_122, zl_126, zl_132, zl_180, zl_181, zl_186, zl_255, zl_900, zl_930, zl_1000, zl_1000000, nI_add, pk_mul, zs_sub, zs_lt, zs_le, zs_eq, zs_inb, zs_cl, zm_eq, zm_eq2, zm_lt, zm_le, mz_lt, mz_le, mm_eq, zs_bit, zs_or1, zs_div, zs_rem, ck_pos, if_pos, if_neg, true_or, or_true, true_and, and_true, false_or, or_false, false_and, and_false, not_true, not_false_iff, if_true, if_false, eq_self, Bool.false_eq_true, cl2_id, Bool.not_true, Bool.not_false]
/-- a side and an opening, on both sides -/
theorem u_view (ht : t = 3 ∨ t = 42) (hC : LC mc N b a n κ) (hM : LM mm N b a n κ) (hf : z_fan r) (hF : CF mc t r) (hrr : rr mc 1 2 = t) (h0 : mm.1 142 0 = nI (r 0)) (h1 : mm.1 142 1 = nI (r 1)) (h3 : mm.1 142 3 = nI (r 3)) {y k1 : Nat} (hy : t < y ∧ y ≤ t + 38) (hk1 : k1 ≠ 0 ∧ k1 ≠ 1 ∧ k1 ≠ 3) :
    (∃ nb pl r9 r18 m10 m19, 1 ≤ nb ∧ (∃ m', fX6_takeView y mc = some (nI 0, m') ∧ m'.1 1 8 = nI nb ∧ m'.1 1 9 = nI pl ∧ (∀ x j, x ≠ 1 → x ≠ y → m'.1 x j = mc.1 x j) ∧ m'.2 = mc.2) ∧ fX11_side mm = some (r9, m10) ∧ fX11_mostOpen 142 (setI m10 142 k1 r9) = some (nI (z_mo r), setI m10 142 k1 r9) ∧ fX11_number (0 : Int32) (nI (z_mo r)) (setI m10 142 k1 r9) = some (r18, m19) ∧ FL m19 nb pl ∧ Gf mm m19) ∨
    (∃ sd op a' n' κ' mc' m10 m19, sd ≤ 1 ∧ op ≤ z_mo r ∧ fX6_takeView y mc = some (nI 1, mc') ∧ LC mc' N b a' n' κ' ∧ mc'.1 y 2 = nI sd ∧ mc'.1 y 3 = nI op ∧ (∀ x j, ¬ (x = 1 ∧ 4 ≤ j ∧ j ≤ 7) → ¬ (x = y ∧ (j = 2 ∨ j = 3)) → mc'.1 x j = mc.1 x j) ∧ mc'.2 = mc.2 ∧ fX11_side mm = some (nI sd, m10) ∧ fX11_mostOpen 142 (setI m10 142 k1 (nI sd)) = some (nI (z_mo r), setI m10 142 k1 (nI sd)) ∧ fX11_number (0 : Int32) (nI (z_mo r)) (setI m10 142 k1 (nI sd)) = some (nI op, m19) ∧ LM m19 N b a' n' κ' ∧ m19.1 142 k1 = nI sd ∧ (∀ x j, ¬ (x = 142 ∧ j = k1) → x ≠ 140 → ¬ (x = 138 ∧ 4 ≤ j ∧ j ≤ 8) → m19.1 x j = mm.1 x j) ∧ m19.2 = mm.2 ∧ a + n ≤ a') := by
  have hz := z_mo_le hf
  have c27 : isB b a n κ 27 = isB b a n κ 13 := isB_cg (by decide)
  have c28 : isB b a n κ 28 = isB b a n κ 14 := isB_cg (by decide)
  by_cases hfb : isB b a n κ 13 = true ∨ isB b a n κ 14 = true
  · obtain ⟨a1, n1, κ1, hT1⟩ := Tk_ex N b hC.bd.1
    obtain ⟨sd, sd1, sde⟩ : ∃ sd, sd ≤ 1 ∧ sd = if isB b a n κ 13 then 0 else 1 := ⟨_, by split <;> omega, rfl⟩
    obtain ⟨c1, p1, p2, p3, p4⟩ := to_1 hC hT1 (by decide) (by decide) sde hfb
    obtain ⟨d1, q1, q2, q3⟩ := sid_1 (q := sd) hM hT1 (by rw [c27]; exact sde) (by rw [c27, c28]; exact hfb)
    have hrr1 : rr c1 1 2 = t := by
      rw [← hrr]
      unfold Jvm.Pilot.CFanPartsLaw_law_r1864_615eae.rr
      rw [p3.2]
    have hL1 : LC (setI c1 y 2 (nI sd)) N b a1 n1 κ1 := p2.cp (fun j => sI_na (by omega)) (fun j => sI_na (by omega))
    have hM1 : LM (setI d1 142 k1 (nI sd)) N b a1 n1 κ1 := q2.tb (fun x j z => sI_na (by omega))
    have hF1 : CF (setI c1 y 2 (nI sd)) t r := ⟨(sI_na (by omega)).trans ((p3.1 t 0 (by omega)).trans hF.1), (sI_na (by omega)).trans ((p3.1 t 1 (by omega)).trans hF.2.1), (sI_na (by omega)).trans ((p3.1 t 3 (by omega)).trans hF.2.2)⟩
    have eo := fX2_openings_e hF1 hf
    have em : fX11_mostOpen 142 (setI d1 142 k1 (nI sd)) = some (nI (z_mo r), setI d1 142 k1 (nI sd)) := mo_e ((sI_nj (by omega)).trans ((q3.1 142 0 (by omega) (by omega)).trans h0)) ((sI_nj (by omega)).trans ((q3.1 142 1 (by omega) (by omega)).trans h1)) ((sI_nj (by omega)).trans ((q3.1 142 3 (by omega) (by omega)).trans h3)) hf
    have eV : fX6_takeView y mc = cl2 (fX6_takeWhole (nI 0) (nI (z_mo r)) (setI c1 y 2 (nI sd))) fun r13 m14 => if r13 = (0 : Int32) then some ((0 : Int32), m14) else some ((1 : Int32), (setI m14 y 3 (m14.1 1 7))) := by
      unfold fX6_takeView
      rw [p1, cl2_so, if_neg (by decide), p4, hrr1]
      refine (cl2_e eo).trans ?_
      have e : nI (z_mo r + 1) - (1 : Int32) = nI (z_mo r) := by
        rw [zl_1, zs_sub (by omega), Nat.add_sub_cancel]
      rw [e]
      rfl
    rcases u_w hL1 hM1 (lo := 0) (hi := z_mo r) (by omega) (by omega) with ⟨nb, w0, w1, w2⟩ | ⟨v, a2, n2, κ2, c2, d2, w1, w2, w3, w4, w5, w6, w7, w8, w9, w10⟩
    · refine Or.inl ⟨nb, a1, nI sd, nI 0, d1, _, w0, ?_, q1, em, w2, wr_FL _ _ _, ((q3.gf).set (by omega) _ _).wr _ _⟩
      obtain ⟨m', x1, x2, x3, x4, x5⟩ := w1
      refine ⟨m', ?_, x2, x3, fun x j z1 z2 => (x4 x j z1).trans ((sI_na z2).trans (p3.1 x j (by omega))), x5.trans p3.2⟩
      rw [eV]
      refine (cl2_e x1).trans ?_
      rfl
    · refine Or.inr ⟨sd, v, a2, n2, κ2, setI c2 y 3 (nI v), d1, d2, sd1, w2, ?_, w4.cp (fun j => sI_na (by omega)) (fun j => sI_na (by omega)), ?_, sI_eq _ _ _ _, fun x j z1 z2 => ?_, w5.2.trans p3.2, q1, em, w7, w8, ?_, fun x j z1 z2 z3 => ?_, w9.2.trans q3.2, ?_⟩
      · rw [eV]
        refine (cl2_e w3).trans ?_
        rw [if_neg (by decide), w6]
        rfl
      · rw [sI_nj (by decide), w5.1 y 2 (by omega), sI_eq]
      · rw [sI_1, if_neg (by omega), w5.1 x j z1, sI_1, if_neg (by omega), p3.1 x j z1]
      · rw [w9.1 142 k1 (by omega) (by omega), sI_eq]
      · rw [w9.1 x j z2 z3, sI_1, if_neg z1, q3.1 x j z2 z3]
      · have := hT1.1
        have := p2.2.2.1
        omega
  · have hb5 : isB b a n κ 13 = false := by
      cases hq : isB b a n κ 13
      · rfl
      · exact absurd (Or.inl hq) hfb
    have hb6 : isB b a n κ 14 = false := by
      cases hq : isB b a n κ 14
      · rfl
      · exact absurd (Or.inr hq) hfb
    have e1 := sid_0 hM (c27.trans hb5) (c28.trans hb6)
    have w13 : (setI (wrM mm 1 a) 142 k1 (nI 1)).1 138 13 = nI 1 := (sI_na (by decide)).trans (wr_13 _ _ _)
    refine Or.inl ⟨1, a, nI 1, 0, wrM mm 1 a, setI (wrM mm 1 a) 142 k1 (nI 1), by omega, ?_, e1, mo_e ((sI_nj (by omega)).trans h0) ((sI_nj (by omega)).trans h1) ((sI_nj (by omega)).trans h3) hf, num_d w13 _ _, (wr_FL _ _ _).set (by decide) _ _, ((Gf.rf mm).wr _ _).set (by omega) _ _⟩
    obtain ⟨m', x1, x2, x3, x4, x5⟩ := to_0 hC (i := 13) (i2 := 14) (by decide) (by decide) hb5 hb6
    refine ⟨m', ?_, x2, x3, fun x j z1 _ => x4 x j z1, x5⟩
    unfold fX6_takeView
    refine (cl2_e x1).trans ?_
    rfl
theorem line_wish (ht : t = 3 ∨ t = 42) (hr0 : rr c0 1 2 = t) (hC : RC c0 mc t N b a n κ true r s) (hM : RM d0 mm N b a n κ r s) (hR : RP true r s) (hb : isB b a n κ 26 = true) : LO t N b a c0 d0 (fX6_readWish mc) (cl2 (fX11_begins 26 (nI (if r 6 < 4 then 1 else 0)) (5 : Int32) mm) fun _ m14 => fX11_wishLine m14) := by
  obtain ⟨⟨fr1, fr2⟩, hL, h3, h8, hCT, h4, hP⟩ := hC
  obtain ⟨hG, hLM, h9, hMR, hMS⟩ := hM
  obtain ⟨hK, hKs, hK4, hK9, hK98⟩ := hR.2 rfl
  have hf := hK.1
  obtain ⟨f0, f1, f2, f3, f4⟩ := id hf
  have rrm : ∀ m : Me, m.2 = mc.2 → rr m 1 2 = t := fun m e => by
    rw [← hr0]
    unfold Jvm.Pilot.CFanPartsLaw_law_r1864_615eae.rr
    rw [e, fr2]
  have hk1 := (isB_1 hb).1
  have hn1 : 1 ≤ n := hL.2.2.2.2.2.1 (by omega)
  have h6 := hK.2.2.2.2.1
  have c9 := hCT.2.1.2.2.1
  by_cases h60 : r 6 < 4
  · rw [if_pos h60]
    obtain ⟨a1, n1, κ1, hT1⟩ := Tk_ex N b hL.bd.1
    obtain ⟨c1, e1, hL1, y2, -⟩ := hL.st hT1
    obtain ⟨d1, e2, hM1, z2⟩ := beg_1 (r := r) hLM hT1 (by decide) hb (hMR 0 (by omega)) ⟨f0, f1⟩ (5 : Int32)
    have r1 := rrm c1 y2.2
    have c19 : c1.1 t 9 = nI (r 6) := (y2.1 t 9 (by omega)).trans c9
    have eF : fX6_readWish mc = cl2 (fX6_copyWord (t + 19 + 2 * r 6) c1) fun r12 m13 => if r12 = (0 : Int32) then some ((0 : Int32), m13) else cl1 (fX6_step m13) fun m17 => cl2 (fX6_takeView (t + 19 + 2 * r 6) m17) fun r20 m21 => if r20 = (0 : Int32) then some ((0 : Int32), m21) else some ((1 : Int32), (setI m21 (rr m21 1 2) 9 ((m21.1 (rr m21 1 2) 9) + (1 : Int32)))) := by
      unfold fX6_readWish
      rw [rrm mc rfl, c9, if_pos (show nI (r 6) < (4 : Int32) from (zs_lt (a := r 6) (b := 4) (by omega) (by omega)).mpr h60), e1, cl1_so, r1, c19, ck_pos ((zs_inb (by omega)).mpr h60), zs_cl (by omega)]
    have hMR1 : MR d1 142 r := fun k hk => (z2.1 142 k (by omega) (by omega)).trans (hMR k hk)
    have eG : (cl2 (fX11_begins 26 (nI 1) (5 : Int32) mm) fun _ m14 => fX11_wishLine m14) = cl2 (fX11_keepWord (nI (68 + 8 * r 6)) d1) fun r4 m5 => cl2 (fX11_side (setI m5 142 (64 + r 6) r4)) fun r9 m10 => cl2 (fX11_mostOpen 142 (setI m10 142 (100 + r 6) r9)) fun r14 m15 => cl2 (fX11_number (0 : Int32) r14 m15) fun r18 m19 => if ((setI m19 142 (104 + r 6) r18).1 138 13) = (0 : Int32) then fX11_wishLine_88 (setI (setI m19 142 (104 + r 6) r18) 142 6 (((setI m19 142 (104 + r 6) r18).1 142 6) + (1 : Int32))) else fX11_wishLine_88 (setI m19 142 (104 + r 6) r18) := by
      rw [e2, cl2_so]
      unfold fX11_wishLine
      simp (disch := omega) only [hM1.2.2.2, hMR1 6 (by omega), cl2_so, cl1_so, ck_tr, zl_0, zl_1, zl_2, zl_3, zl_4, zl_5, zl_6, zl_7, zl_8, zl_9, zl_10, zl_11, zl_12, zl_15, zl_16, zl_20, zl_24, zl_25, zl_30, zl_31, zl_32, zl_33, zl_44, zl_48, zl_50, zl_57, zl_59, zl_60, zl_61, zl_62, zl_63, zl_64, zl_68, zl_97, zl_99, zl_100, zl_104, zl_108, zl_114, zl_120, zl_122, zl_126, zl_132, zl_180, zl_181, zl_186, zl_255, zl_900, zl_930, zl_1000, zl_1000000, nI_add, pk_mul, zs_sub, zs_lt, zs_le, zs_eq, zs_inb, zs_cl, zm_eq, zm_eq2, zm_lt, zm_le, mz_lt, mz_le, mm_eq, zs_bit, zs_or1, zs_div, zs_rem, ck_pos, if_pos, if_neg, true_or, or_true, true_and, and_true, false_or, or_false, false_and, and_false, not_true, not_false_iff, if_true, if_false, eq_self, Bool.false_eq_true, cl2_id, Bool.not_true, Bool.not_false]
    rw [eG]
    have k1 : ∀ x j, x ≠ 1 → ¬ (t ≤ x ∧ x ≤ t + 38) → c1.1 x j = c0.1 x j := fun x j q1 q2 => (y2.1 x j (by omega)).trans (fr1 x j q1 q2)
    have k2 : c1.2 = c0.2 := y2.2.trans fr2
    have hG1 := hG.tr z2.gf
    have dead : ∀ (m19 : Me) (r18 : Int32) (nb pl : Nat), FL m19 nb pl → Gf d0 m19 → MX d0 (if ((setI m19 142 (104 + r 6) r18).1 138 13) = (0 : Int32) then fX11_wishLine_88 (setI (setI m19 142 (104 + r 6) r18) 142 6 (((setI m19 142 (104 + r 6) r18).1 142 6) + (1 : Int32))) else fX11_wishLine_88 (setI m19 142 (104 + r 6) r18)) nb pl := fun m19 r18 nb pl hF hg => by
      rw [show (setI m19 142 (104 + r 6) r18).1 138 13 = nI 1 from (sI_na (by decide)).trans hF.1, if_neg (by decide)]
      exact ⟨_, rfl, hF.set (by decide) _ _, hg.set (by omega) _ _⟩
    by_cases hk' : κ1 = 1
    · obtain ⟨c2, g1, g2, g3, g4, g5⟩ := cw_1 hL1 hk' (y := t + 19 + 2 * r 6) (by omega)
      obtain ⟨a2, n2, κ2, hT2⟩ := Tk_ex N b hL1.bd.1
      obtain ⟨c3, s1, s2, s3, -⟩ := g5.st hT2
      obtain ⟨d2, q1, q2, q3, q4, q5⟩ := kw_1 hM1 hT2 hk' (fr := 68 + 8 * r 6) (by omega)
      obtain ⟨o1, o2, o3, o4, o5, o6⟩ := id hL1.2.2
      have hn8 := (o5 hk').1
      have hn1' := o4 (by omega)
      have r3 := rrm c3 (s3.2.trans (g4.trans y2.2))
      have ck3 : ∀ x j, x ≠ 1 → ¬ (x = t + 19 + 2 * r 6 ∧ j = 1) → x ≠ t + 19 + 2 * r 6 + 1 → c3.1 x j = mc.1 x j := fun x j z1 z2 z3 => (s3.1 x j (by omega)).trans ((g3 x j z2 z3).trans (y2.1 x j (by omega)))
      have hM2 : LM (setI d2 142 (64 + r 6) (nI n1)) N b a2 n2 κ2 := q2.tb (fun x j z => sI_na (by omega))
      have hF3 : CF c3 t r := ⟨(ck3 t 0 (by omega) (by omega) (by omega)).trans hCT.1.1, (ck3 t 1 (by omega) (by omega) (by omega)).trans hCT.1.2.1, (ck3 t 3 (by omega) (by omega) (by omega)).trans hCT.1.2.2⟩
      have dk : ∀ k, k < 68 → k ≠ 64 + r 6 → (setI d2 142 (64 + r 6) (nI n1)).1 142 k = nI (r k) := fun k z1 z2 => (sI_nj z2).trans ((q4 142 k (by omega) (by omega) (by omega)).trans (hMR1 k (by omega)))
      have hG2 : Gf d0 (setI d2 142 (64 + r 6) (nI n1)) := (hG1.tr ⟨fun x j z1 z2 z3 z4 z5 => q4 x j (by omega) z2 (by omega), q5⟩).set (by omega) _ _
      rcases u_view ht s2 hM2 hf hF3 r3 (dk 0 (by omega) (by omega)) (dk 1 (by omega) (by omega)) (dk 3 (by omega) (by omega)) (y := t + 19 + 2 * r 6) (k1 := 100 + r 6) (by omega) (by omega) with ⟨nb, pl, r9, r18, m10, m19, v0, ⟨m', x1, x2, x3, x4, x5⟩, v2, v3, v4, v5, v6⟩ | ⟨sd, op, a3, n3, κ3, c4, m10, m19, v1, v2, v3, v4, v5, v6, v7, v8, v9, v10, v11, v12, v13, v14, v15, v16⟩
      · refine Or.inl ⟨nb, pl, v0, ⟨m', ?_, x2, x3, fun x j z1 z2 => ?_, x5.trans (s3.2.trans (g4.trans k2))⟩, ?_⟩
        · rw [eF, g1, cl2_so, if_neg (by decide), s1, cl1_so]
          refine (cl2_e x1).trans ?_
          rfl
        · exact (x4 x j z1 (by omega)).trans ((ck3 x j z1 (by omega) (by omega)).trans (fr1 x j z1 z2))
        · have := dead m19 r18 nb pl v5 (hG2.tr v6)
          rw [q1, cl2_so]
          rw [v2, cl2_so]
          rw [v3, cl2_so]
          rw [v4, cl2_so]
          exact this
      · have ck4 : ∀ x j, x ≠ 1 → ¬ (x = t + 19 + 2 * r 6 ∧ 1 ≤ j ∧ j ≤ 3) → x ≠ t + 19 + 2 * r 6 + 1 → c4.1 x j = mc.1 x j := fun x j z1 z2 z3 => (v7 x j (by omega) (by omega)).trans (ck3 x j z1 (by omega) z3)
        have r4 := rrm c4 (v8.trans (s3.2.trans (g4.trans y2.2)))
        have c49 : c4.1 t 9 = nI (r 6) := (ck4 t 9 (by omega) (by omega) (by omega)).trans c9
        have m141 : ∀ k, k < 186 → k ≠ 64 + r 6 → k ≠ 100 + r 6 → ¬ (68 + 8 * r 6 ≤ k ∧ k < 68 + 8 * r 6 + n1) → m19.1 142 k = nI (r k) := fun k z1 z2 z3 z4 => (v14 142 k (by omega) (by omega) (by omega)).trans ((sI_nj z2).trans ((q4 142 k (by omega) (by omega) (by omega)).trans (hMR1 k z1)))
        let r' : Nat → Nat := fun k => if k = 6 then r 6 + 1 else if k = 64 + r 6 then n1 else if k = 100 + r 6 then sd else if k = 104 + r 6 then op else spn r b a1 (68 + 8 * r 6) n1 k
        have er : ∀ k, k ≠ 6 → k ≠ 64 + r 6 → k ≠ 100 + r 6 → k ≠ 104 + r 6 → ¬ (68 + 8 * r 6 ≤ k ∧ k < 68 + 8 * r 6 + n1) → r' k = r k := fun k z1 z2 z3 z4 z5 => by
          show (if k = 6 then r 6 + 1 else if k = 64 + r 6 then n1 else if k = 100 + r 6 then sd else if k = 104 + r 6 then op else spn r b a1 (68 + 8 * r 6) n1 k) = r k
          rw [if_neg z1, if_neg z2, if_neg z3, if_neg z4, spn_out z5]
        have ex : ∀ k, (k < 6 ∨ 7 ≤ k ∧ k < 64 ∨ 108 ≤ k) → r' k = r k := fun k z => er k (by omega) (by omega) (by omega) (by omega) (by omega)
        have er6 : r' 6 = r 6 + 1 := rfl
        have er64 : r' (64 + r 6) = n1 := by
          show (if 64 + r 6 = 6 then r 6 + 1 else if 64 + r 6 = 64 + r 6 then n1 else _) = n1
          rw [if_neg (by omega), if_pos rfl]
        have er100 : r' (100 + r 6) = sd := by
          show (if 100 + r 6 = 6 then r 6 + 1 else if 100 + r 6 = 64 + r 6 then n1 else if 100 + r 6 = 100 + r 6 then sd else _) = sd
          rw [if_neg (by omega), if_neg (by omega), if_pos rfl]
        have er104 : r' (104 + r 6) = op := by
          show (if 104 + r 6 = 6 then r 6 + 1 else if 104 + r 6 = 64 + r 6 then n1 else if 104 + r 6 = 100 + r 6 then sd else if 104 + r 6 = 104 + r 6 then op else _) = op
          rw [if_neg (by omega), if_neg (by omega), if_neg (by omega), if_pos rfl]
        have erl : ∀ c, c < n1 → r' (68 + 8 * r 6 + c) = b (a1 + c) - 97 := fun c hc => by
          show (if 68 + 8 * r 6 + c = 6 then r 6 + 1 else if 68 + 8 * r 6 + c = 64 + r 6 then n1 else if 68 + 8 * r 6 + c = 100 + r 6 then sd else if 68 + 8 * r 6 + c = 104 + r 6 then op else spn r b a1 (68 + 8 * r 6) n1 (68 + 8 * r 6 + c)) = _
          rw [if_neg (by omega), if_neg (by omega), if_neg (by omega), if_neg (by omega), spn_at hc]
        have emo : z_mo r' = z_mo r := z_mo_cg (ex 0 (by omega)) (ex 1 (by omega)) (ex 3 (by omega))
        have ezo : ∀ w, w < r 6 → z_wish r' w = z_wish r w := fun w hw => by
          unfold z_wish
          have := (hK.I w hw).2.1
          rw [er (64 + w) (by omega) (by omega) (by omega) (by omega) (by omega)]
          exact z_w_cg (fun k hk => er _ (by omega) (by omega) (by omega) (by omega) (by omega))
        have ezn : z_wish r' (r 6) = wL b a1 n1 := by
          unfold z_wish
          rw [er64]
          unfold z_w wL
          apply List.map_congr_left
          intro k hk
          exact erl k (List.mem_range.mp hk)
        refine Or.inr ⟨a3, n3, κ3, r', s, setI c4 t 9 (nI (r 6 + 1)), setI (setI m19 142 (104 + r 6) (nI op)) 142 6 (nI (r 6 + 1)), ?_, ?_, ⟨⟨fun x j z1 z2 => ?_, ?_⟩, v4.cp (fun j => sI_na (by omega)) (fun j => sI_na (by omega)), ?_, ?_, ⟨⟨?_, ?_, ?_⟩, ⟨?_, ?_, ?_, ?_, ?_⟩, ?_, fun w hw => ?_, ?_, ?_⟩, ?_, ?_⟩, ⟨?_, v12.tb (fun x j z => (sI_na (by omega)).trans (sI_na (by omega))), ?_, fun k hk => ?_, fun k hk => ?_⟩, ⟨fun q => absurd q (by decide), fun _ => ⟨OKr.mk' (z_fan_cg (ex 0 (by omega)) (ex 1 (by omega)) (ex 3 (by omega)) hf) (fun k hk => ?_) ?_ ?_ ?_ ?_ ?_ (hK.W.cg hK.2.2.2.1 (fun k hk => ex k (by omega))) (fun w hw => ?_) (hK.S.cg hK.2.2.2.2.2.1 (fun k hk => ex k (by omega))) (hK.B.cg hK.2.2.2.2.2.2.1 (fun k hk => ex k (by omega))) (hK.D.cg hK.W hK.2.2.2.1 (fun k hk => ex k (by omega))), hKs.cg (ex 0 (by omega)) (ex 1 (by omega)) (ex 3 (by omega)), ?_, ?_, ?_⟩⟩, ?_⟩
        · rw [eF, g1, cl2_so, if_neg (by decide), s1, cl1_so]
          refine (cl2_e v3).trans ?_
          rw [if_neg (by decide), r4, c49, zl_1, nI_add]
        · have i6 : (setI m19 142 (104 + r 6) (nI op)).1 142 6 = nI (r 6) := (sI_nj (by omega)).trans (m141 6 (by omega) (by omega) (by omega) (by omega))
          have i13 : (setI m19 142 (104 + r 6) (nI op)).1 138 13 = nI 0 := (sI_na (by decide)).trans v12.2.2.2
          rw [q1, cl2_so, v9, cl2_so, v10, cl2_so, v11, cl2_so, i13, if_pos (by decide), i6, zl_1, nI_add]
          rfl
        · rw [sI_na (by omega), ck4 x j z1 (by omega) (by omega)]
          exact fr1 x j z1 z2
        · exact v8.trans (s3.2.trans (g4.trans k2))
        · rw [sI_na (by omega), v7 1 3 (by omega) (by omega), s3.1 1 3 (by omega), g3 1 3 (by omega) (by omega), y2.1 1 3 (by omega)]
          exact h3
        · rw [sI_na (by omega), v7 1 8 (by omega) (by omega), s3.1 1 8 (by omega), g3 1 8 (by omega) (by omega), y2.1 1 8 (by omega)]
          exact h8
        · rw [sI_nj (by omega), ck4 t 0 (by omega) (by omega) (by omega), ex 0 (by omega)]
          exact hCT.1.1
        · rw [sI_nj (by omega), ck4 t 1 (by omega) (by omega) (by omega), ex 1 (by omega)]
          exact hCT.1.2.1
        · rw [sI_nj (by omega), ck4 t 3 (by omega) (by omega) (by omega), ex 3 (by omega)]
          exact hCT.1.2.2
        · rw [sI_nj (by omega), ck4 t 2 (by omega) (by omega) (by omega), ex 2 (by omega)]
          exact hCT.2.1.1
        · rw [sI_nj (by omega), ck4 t 7 (by omega) (by omega) (by omega), ex 5 (by omega)]
          exact hCT.2.1.2.1
        · exact sI_eq _ _ _ _
        · rw [sI_nj (by omega), ck4 t 11 (by omega) (by omega) (by omega), ex 7 (by omega)]
          exact hCT.2.1.2.2.2.1
        · rw [sI_nj (by omega), ck4 t 13 (by omega) (by omega) (by omega), ex 8 (by omega)]
          exact hCT.2.1.2.2.2.2
        · exact cW.cg hCT.W hK.W hK.2.2.2.1 (fun x j z1 z2 => (sI_na (by omega)).trans (ck4 x j (by omega) (by omega) (by omega))) (fun k hk => ex k (by omega))
        · by_cases z : w = r 6
          · subst z
            rw [ezn, er100, er104]
            refine ⟨((g2.cg (fun x j q => s3.1 x j (by omega))).1 |> fun hh => ⟨?_, fun k hk => ?_⟩), (sI_na (by omega)).trans v5, (sI_na (by omega)).trans v6⟩
            · rw [sI_na (by omega), v7 _ 1 (by omega) (by omega)]
              exact hh
            · rw [sI_na (by omega), v7 _ k (by omega) (by omega), s3.1 _ k (by omega)]
              exact g2.2 k hk
          · have hw' : w < r 6 := by
              have : w < r 6 + 1 := hw
              omega
            obtain ⟨u1, u2, u3⟩ := hCT.I w hw'
            rw [ezo w hw', er (100 + w) (by omega) (by omega) (by omega) (by omega) (by omega), er (104 + w) (by omega) (by omega) (by omega) (by omega) (by omega)]
            exact ⟨u1.cg (fun x j q => (sI_na (by omega)).trans (ck4 x j (by omega) (by omega) (by omega))), (sI_na (by omega)).trans ((ck4 _ _ (by omega) (by omega) (by omega)).trans u2), (sI_na (by omega)).trans ((ck4 _ _ (by omega) (by omega) (by omega)).trans u3)⟩
        · exact cS.cg hCT.S hK.S hK.2.2.2.2.2.1 (fun x j z1 z2 => (sI_na (by omega)).trans (ck4 x j (by omega) (by omega) (by omega))) (fun k hk => ex k (by omega))
        · exact cB.cg hCT.B hK.2.2.2.2.2.2.1 (fun j => (sI_na (by omega)).trans (ck4 _ j (by omega) (by omega) (by omega))) (fun k hk => ex k (by omega))
        · rw [sI_nj (by omega), ck4 t 4 (by omega) (by omega) (by omega), ex 4 (by omega)]
          exact h4
        · exact (hP.cg (fun x j z => (sI_na (by omega)).trans (ck4 x j (by omega) (by omega) (by omega)))).cr (ex 0 (by omega)) (ex 1 (by omega))
        · exact ⟨fun x j z1 z2 z3 z4 z5 => (sI_na z3).trans ((sI_na z3).trans ((v14 x j (by omega) z2 (by omega)).trans (hG2.1 x j z1 z2 z3 z4 z5))), v15.trans hG2.2⟩
        · rw [sI_na (by decide), sI_na (by decide), v14 138 9 (by omega) (by omega) (by omega), sI_na (by decide), q4 138 9 (by omega) (by omega) (by omega), z2.1 138 9 (by omega) (by omega)]
          exact h9
        · by_cases z6 : k = 6
          · subst z6
            exact sI_eq _ _ _ _
          · rw [sI_nj z6]
            by_cases z104 : k = 104 + r 6
            · subst z104
              rw [sI_eq, er104]
            · rw [sI_nj z104]
              by_cases z100 : k = 100 + r 6
              · subst z100
                rw [v13, er100]
              · by_cases z64 : k = 64 + r 6
                · subst z64
                  rw [v14 142 _ (by omega) (by omega) (by omega), sI_eq, er64]
                · by_cases zl : 68 + 8 * r 6 ≤ k ∧ k < 68 + 8 * r 6 + n1
                  · have := q3 (k - (68 + 8 * r 6)) (by omega)
                    have el := erl (k - (68 + 8 * r 6)) (by omega)
                    rw [show 68 + 8 * r 6 + (k - (68 + 8 * r 6)) = k by omega] at this el
                    rw [v14 142 k (by omega) (by omega) (by omega), sI_nj z64, this, el]
                  · rw [m141 k hk z64 z100 zl, er k z6 z64 z100 z104 zl]
        · rw [sI_na (by decide), sI_na (by decide), v14 144 k (by omega) (by omega) (by omega), sI_na (by decide), q4 144 k (by omega) (by omega) (by omega), z2.1 144 k (by omega) (by omega)]
          exact hMS k hk
        · have hz := z_mo_le hf
          by_cases z6 : k = 6
          · subst z6
            rw [er6]
            omega
          · by_cases z104 : k = 104 + r 6
            · subst z104
              rw [er104]
              omega
            · by_cases z100 : k = 100 + r 6
              · subst z100
                rw [er100]
                omega
              · by_cases z64 : k = 64 + r 6
                · subst z64
                  rw [er64]
                  omega
                · by_cases zl : 68 + 8 * r 6 ≤ k ∧ k < 68 + 8 * r 6 + n1
                  · have el := erl (k - (68 + 8 * r 6)) (by omega)
                    have := (o5 hk').2 (k - (68 + 8 * r 6)) (by omega)
                    rw [show 68 + 8 * r 6 + (k - (68 + 8 * r 6)) = k by omega] at el
                    rw [el]
                    omega
                  · rw [er k z6 z64 z100 z104 zl]
                    exact hK.2.1 k hk
        · rw [ex 2 (by omega)]
          exact hK.2.2.1
        · rw [ex 5 (by omega)]
          exact hK.2.2.2.1
        · rw [er6]
          omega
        · rw [ex 7 (by omega)]
          exact hK.2.2.2.2.2.1
        · rw [ex 8 (by omega)]
          exact hK.2.2.2.2.2.2.1
        · rw [er6] at hw
          by_cases z : w = r 6
          · subst z
            rw [er64, er100, er104, emo]
            refine ⟨hn1', hn8, v1, v2, fun k hk => ?_⟩
            rw [erl k hk]
            have := (o5 hk').2 k hk
            omega
          · obtain ⟨w1, w2, w3, w4, w5⟩ := hK.I w (by omega)
            rw [er (64 + w) (by omega) (by omega) (by omega) (by omega) (by omega), er (100 + w) (by omega) (by omega) (by omega) (by omega) (by omega), er (104 + w) (by omega) (by omega) (by omega) (by omega) (by omega), emo]
            exact ⟨w1, w2, w3, w4, fun k hk => by rw [er (68 + 8 * w + k) (by omega) (by omega) (by omega) (by omega) (by omega)]; exact w5 k hk⟩
        · rw [ex 4 (by omega), ex 0 (by omega)]
          exact hK4
        · rw [ex 9 (by omega)]
          exact hK9
        · rw [ex 9 (by omega), ex 8 (by omega)]
          exact hK98
        · have := hT1.1
          have := hT2.1
          have := s2.2.2.1
          omega
    · have e4 := kw_0 hM1 hk' (nI (68 + 8 * r 6))
      have w0 : FL (setI (wrM d1 1 a1) 142 (64 + r 6) (nI 0)) 1 a1 := (wr_FL _ _ _).set (by decide) _ _
      have w1 : FL (setI (setI (wrM d1 1 a1) 142 (64 + r 6) (nI 0)) 142 (100 + r 6) (nI 0)) 1 a1 := w0.set (by decide) _ _
      have em : fX11_mostOpen 142 (setI (setI (wrM d1 1 a1) 142 (64 + r 6) (nI 0)) 142 (100 + r 6) (nI 0)) = some (nI (z_mo r), setI (setI (wrM d1 1 a1) 142 (64 + r 6) (nI 0)) 142 (100 + r 6) (nI 0)) := mo_e ((sI_nj (by omega)).trans ((sI_nj (by omega)).trans (hMR1 0 (by omega)))) ((sI_nj (by omega)).trans ((sI_nj (by omega)).trans (hMR1 1 (by omega)))) ((sI_nj (by omega)).trans ((sI_nj (by omega)).trans (hMR1 3 (by omega)))) hf
      refine Or.inl ⟨1, a1, by omega, ((cw_0 hL1 hk' (t + 19 + 2 * r 6)).cx (t := t) (m0 := c0) k1 k2).eq (fun m' e => ?_), ?_⟩
      · rw [eF]
        refine Eq.trans (cl2_e e) ?_
        rfl
      · have := dead _ (0 : Int32) 1 a1 w1 (((hG1.wr _ _).set (by omega) _ _).set (by omega) _ _)
        rw [e4, cl2_so, sid_d w0.1, cl2_so, em, cl2_so, num_d w1.1, cl2_so]
        exact this
  · rw [if_neg h60]
    have e5 := beg_0 (r := r) hLM (i := 26) (by decide) hb (hMR 0 (by omega)) ⟨f0, f1⟩ 5
    refine Or.inl ⟨5, a, by omega, ((flC_fl (m := mc) (nb := 5) (a := a)).cx (t := t) (m0 := c0) fr1 fr2).eq (fun m' e => ?_), wrM mm 5 a, ?_, wr_FL _ _ _, hG.wr _ _⟩
    · rw [← e]
      unfold fX6_readWish
      rw [rrm mc rfl, c9, if_neg (show ¬ nI (r 6) < (4 : Int32) from fun q => h60 ((zs_lt (a := r 6) (b := 4) (by omega) (by omega)).mp q))]
      simp (disch := omega) only [fail_e hL.2.1.1, cl2_so, cl1_so, ck_tr, zl_0, zl_1, zl_2, zl_3, zl_4, zl_5, zl_6, zl_7, zl_8, zl_9, zl_10, zl_11, zl_12, zl_15, zl_16, zl_20, zl_24, zl_25, zl_30, zl_31, zl_32, zl_33, zl_44, zl_48, zl_50, zl_57, zl_59, zl_60, zl_61, zl_62, zl_63, zl_64, zl_68, zl_97, zl_99, zl_100, zl_104, zl_108, zl_114, zl_120, zl_122, zl_126, zl_132, zl_180, zl_181, zl_186, zl_255, zl_900, zl_930, zl_1000, zl_1000000, nI_add, pk_mul, zs_sub, zs_lt, zs_le, zs_eq, zs_inb, zs_cl, zm_eq, zm_eq2, zm_lt, zm_le, mz_lt, mz_le, mm_eq, zs_bit, zs_or1, zs_div, zs_rem, ck_pos, if_pos, if_neg, true_or, or_true, true_and, and_true, false_or, or_false, false_and, and_false, not_true, not_false_iff, if_true, if_false, eq_self, Bool.false_eq_true, cl2_id, Bool.not_true, Bool.not_false]
    · refine (cl2_e e5).trans (wish_d (wr_13 _ _ _))
end WISH
