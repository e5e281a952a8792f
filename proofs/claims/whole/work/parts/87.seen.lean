/-! what was seen -/
section SEEN
variable {N : Nat} {b : Nat → Nat} {mc mm c0 d0 m : Me} {a n κ t a' n' κ' : Nat} {r s : Nat → Nat}
theorem show_pos (hf : z_fan r) (side op : Nat) : 1 ≤ (z_show r side op 0).length := by
  obtain ⟨f0, f1, f2, f3, f4⟩ := hf
  unfold z_show
  rw [show_len]
  obtain ⟨k, hk⟩ : ∃ k, r 0 = k + 1 := ⟨r 0 - 1, by omega⟩
  rw [hk, sS]
  have : z_op r (0 + k) (z_rib r side (0 + k)) op = r 1 := by
    unfold z_op
    rw [if_pos (by omega)]
  omega
theorem s151_d {nb pl q : Nat} (hq : q < 6) (h : FL m nb pl) : ∃ m', fX11_seenLine_151 (nI q) m = some m' ∧ FL m' nb pl ∧ Gf m m' := by
  have h' : FL (setI m 142 (126 + q) (nI 0)) nb pl := h.set (by decide) _ _
  have i13 : (setI m 142 (126 + q) (nI 0)).1 138 13 = nI 1 := h'.1
  refine ⟨setI m 142 (126 + q) (nI 0), ?_, h', (Gf.rf m).set (by omega) _ _⟩
  unfold fX11_seenLine_151 fX11_seenLine_190
  simp (disch := omega) only [kw_d h.1, i13, cl2_so, cl1_so, ck_tr, zl_0, zl_1, zl_2, zl_3, zl_4, zl_5, zl_6, zl_7, zl_8, zl_9, zl_10, zl_11, zl_12, zl_15, zl_16, zl_20, zl_24, zl_25, zl_30, zl_31, zl_32, zl_33, zl_44, zl_48, zl_50, zl_57, zl_59, zl_60, zl_61, zl_62, zl_63, zl_64, zl_68, zl_97, zl_99, zl_100, zl_104, zl_108, zl_114, zl_120, zl_122, zl_126, zl_132, zl_180, zl_181, zl_186, zl_255, zl_900, zl_930, zl_1000, zl_1000000, nI_add, pk_mul, zs_sub, zs_lt, zs_le, zs_eq, zs_inb, zs_cl, zm_eq, zm_eq2, zm_lt, zm_le, mz_lt, mz_le, mm_eq, zs_bit, zs_or1, zs_div, zs_rem, ck_pos, if_pos, if_neg, true_or, or_true, true_and, and_true, false_or, or_false, false_and, and_false, not_true, not_false_iff, if_true, if_false, eq_self, Bool.false_eq_true, cl2_id, Bool.not_true, Bool.not_false]
theorem s94_d {nb pl q : Nat} (hq : q < 6) (h : FL m nb pl) (t0 : Int32) : ∃ m', fX11_seenLine_94 (nI q) t0 m = some m' ∧ FL m' nb pl ∧ Gf m m' := by
  have h' : FL (setI m 142 (120 + q) (nI 0)) nb pl := h.set (by decide) _ _
  have i13 : (setI m 142 (120 + q) (nI 0)).1 138 13 = nI 1 := h'.1
  obtain ⟨m', e1, e2, e3⟩ := s151_d hq h'
  refine ⟨m', ?_, e2, ((Gf.rf m).set (by omega) _ _).tr e3⟩
  rw [← e1]
  unfold fX11_seenLine_94
  have en : fX11_number (0 : Int32) (t0 - (1 : Int32)) m = some ((0 : Int32), m) := num_d h.1 _ _
  rw [en, cl2_so]
  simp (disch := omega) only [mw_d h'.1, i13, cl2_so, cl1_so, ck_tr, zl_0, zl_1, zl_2, zl_3, zl_4, zl_5, zl_6, zl_7, zl_8, zl_9, zl_10, zl_11, zl_12, zl_15, zl_16, zl_20, zl_24, zl_25, zl_30, zl_31, zl_32, zl_33, zl_44, zl_48, zl_50, zl_57, zl_59, zl_60, zl_61, zl_62, zl_63, zl_64, zl_68, zl_97, zl_99, zl_100, zl_104, zl_108, zl_114, zl_120, zl_122, zl_126, zl_132, zl_180, zl_181, zl_186, zl_255, zl_900, zl_930, zl_1000, zl_1000000, nI_add, pk_mul, zs_sub, zs_lt, zs_le, zs_eq, zs_inb, zs_cl, zm_eq, zm_eq2, zm_lt, zm_le, mz_lt, mz_le, mm_eq, zs_bit, zs_or1, zs_div, zs_rem, ck_pos, if_pos, if_neg, true_or, or_true, true_and, and_true, false_or, or_false, false_and, and_false, not_true, not_false_iff, if_true, if_false, eq_self, Bool.false_eq_true, cl2_id, Bool.not_true, Bool.not_false]
theorem line_seen (ht : t = 3 ∨ t = 42) (hr0 : rr c0 1 2 = t) (hC : RC c0 mc t N b a n κ true r s) (hM : RM d0 mm N b a n κ r s) (hR : RP true r s) (hb : isB b a n κ 29 = true) : LO t N b a c0 d0 (fX6_readSeen mc) (cl2 (fX11_begins 29 (nI (if r 7 < 6 then 1 else 0)) (5 : Int32) mm) fun _ m14 => fX11_seenLine m14) := by
  obtain ⟨⟨fr1, fr2⟩, hL, h3, h8, hCT, h4, hP⟩ := hC
  obtain ⟨hG, hLM, h9, hMR, hMS⟩ := hM
  obtain ⟨hK, hKs, hK4, hK9, hK98⟩ := hR.2 rfl
  have hf := hK.1
  obtain ⟨f0, f1, f2, f3, f4⟩ := id hf
  have rrm : ∀ m : Me, m.2 = mc.2 → rr m 1 2 = t := fun m e => by
    rw [← hr0]
    unfold Jvm.Pilot.CFanPartsLaw_law_r1864_615eae.rr
    rw [e, fr2]
  have hk1 := (isB_1 hb).1
  have hn1 : 1 ≤ n := hL.2.2.2.2.2.1 (by omega)
  have h7 := hK.2.2.2.2.2.1
  have c11 := hCT.2.1.2.2.2.1
  by_cases h70 : r 7 < 6
  · rw [if_pos h70]
    obtain ⟨a1, n1, κ1, hT1⟩ := Tk_ex N b hL.bd.1
    obtain ⟨c1, e1, hL1, y2, -⟩ := hL.st hT1
    obtain ⟨d1, e2, hM1, z2⟩ := beg_1 (r := r) hLM hT1 (by decide) hb (hMR 0 (by omega)) ⟨f0, f1⟩ (5 : Int32)
    have r1 := rrm c1 y2.2
    have c111 : c1.1 t 11 = nI (r 7) := (y2.1 t 11 (by omega)).trans c11
    generalize hy : t + 27 + 2 * r 7 = y at *
    have eF : fX6_readSeen mc = cl2 (fX6_takeView y c1) fun r12 m13 => if r12 = (0 : Int32) then some ((0 : Int32), m13) else cl2 (fX2_wholeLength (rr m13 1 2) (m13.1 y 2) (m13.1 y 3) m13) fun r18 m19 => cl2 (fX6_takeName 15 m19) fun r22 m23 => if r22 = (0 : Int32) then fX6_readSeen_90 m23 else cl2 (fX6_takeWhole (0 : Int32) ((r18 - (1 : Int32))) m23) fun r27 m28 => if r27 = (0 : Int32) then fX6_readSeen_90 m28 else cl2 (fX6_copyWord y (setI m28 y 4 (m28.1 1 7))) fun r32 m33 => if r32 = (0 : Int32) then some ((0 : Int32), m33) else if ((m33.1 y 4) + (m33.1 y 1)) ≤ r18 then cl1 (fX6_step m33) fun m38 => some ((1 : Int32), (setI m38 (rr m38 1 2) 11 ((m38.1 (rr m38 1 2) 11) + (1 : Int32)))) else cl2 (fX6_fail (7 : Int32) m33) fun r42 m43 => ck (r42 = (0 : Int32) ∨ r42 = (1 : Int32)) (some (r42, m43)) := by
      unfold fX6_readSeen
      rw [rrm mc rfl, c11, if_pos (show nI (r 7) < (6 : Int32) from (zs_lt (a := r 7) (b := 6) (by omega) (by omega)).mpr h70), e1, cl1_so, r1, c111, ck_pos ((zs_inb (by omega)).mpr h70), zs_cl (by omega), hy]
    have hMR1 : MR d1 142 r := fun k hk => (z2.1 142 k (by omega) (by omega)).trans (hMR k hk)
    have eG : (cl2 (fX11_begins 29 (nI 1) (5 : Int32) mm) fun _ m14 => fX11_seenLine m14) = cl2 (fX11_side d1) fun r4 m5 => cl2 (fX11_mostOpen 142 (setI m5 142 (108 + r 7) r4)) fun r9 m10 => cl2 (fX11_number (0 : Int32) r9 m10) fun r13 m14 => cl1 (fX11_must 30 (setI m14 142 (114 + r 7) r13)) fun m18 => if (m18.1 138 13) = (0 : Int32) then (cl2 (fX11_lay 142 ((m18.1 142 (108 + r 7))) ((m18.1 142 (114 + r 7))) (0 : Int32) m18) fun r24 m25 => fX11_seenLine_94 (nI (r 7)) r24 m25) else fX11_seenLine_94 (nI (r 7)) (1 : Int32) m18 := by
      rw [e2, cl2_so]
      unfold fX11_seenLine
      simp (disch := omega) only [hM1.2.2.2, hMR1 7 (by omega), cl2_so, cl1_so, ck_tr, zl_0, zl_1, zl_2, zl_3, zl_4, zl_5, zl_6, zl_7, zl_8, zl_9, zl_10, zl_11, zl_12, zl_15, zl_16, zl_20, zl_24, zl_25, zl_30, zl_31, zl_32, zl_33, zl_44, zl_48, zl_50, zl_57, zl_59, zl_60, zl_61, zl_62, zl_63, zl_64, zl_68, zl_97, zl_99, zl_100, zl_104, zl_108, zl_114, zl_120, zl_122, zl_126, zl_132, zl_180, zl_181, zl_186, zl_255, zl_900, zl_930, zl_1000, zl_1000000, nI_add, pk_mul, zs_sub, zs_lt, zs_le, zs_eq, zs_inb, zs_cl, zm_eq, zm_eq2, zm_lt, zm_le, mz_lt, mz_le, mm_eq, zs_bit, zs_or1, zs_div, zs_rem, ck_pos, if_pos, if_neg, true_or, or_true, true_and, and_true, false_or, or_false, false_and, and_false, not_true, not_false_iff, if_true, if_false, eq_self, Bool.false_eq_true, cl2_id, Bool.not_true, Bool.not_false]
    rw [eG]
    have k1 : ∀ x j, x ≠ 1 → ¬ (t ≤ x ∧ x ≤ t + 38) → c1.1 x j = c0.1 x j := fun x j q1 q2 => (y2.1 x j (by omega)).trans (fr1 x j q1 q2)
    have k2 : c1.2 = c0.2 := y2.2.trans fr2
    have hG1 := hG.tr z2.gf
    have hF1 : CF c1 t r := ⟨(y2.1 t 0 (by omega)).trans hCT.1.1, (y2.1 t 1 (by omega)).trans hCT.1.2.1, (y2.1 t 3 (by omega)).trans hCT.1.2.2⟩
    -- once failed
    have dead : ∀ (m18 : Me) (nb pl : Nat), FL m18 nb pl → Gf d0 m18 → MX d0 (if (m18.1 138 13) = (0 : Int32) then (cl2 (fX11_lay 142 ((m18.1 142 (108 + r 7))) ((m18.1 142 (114 + r 7))) (0 : Int32) m18) fun r24 m25 => fX11_seenLine_94 (nI (r 7)) r24 m25) else fX11_seenLine_94 (nI (r 7)) (1 : Int32) m18) nb pl := fun m18 nb pl hF hg => by
      rw [hF.1, if_neg (by decide)]
      obtain ⟨m', e1, e2, e3⟩ := s94_d h70 hF (1 : Int32)
      exact ⟨m', e1, e2, hg.tr e3⟩
    rcases u_view ht hL1 hM1 hf hF1 r1 (hMR1 0 (by omega)) (hMR1 1 (by omega)) (hMR1 3 (by omega)) (y := y) (k1 := 108 + r 7) (by omega) (by omega) with ⟨nb, pl, r9, r18, m10, m19, v0, ⟨m', x1, x2, x3, x4, x5⟩, v2, v3, v4, v5, v6⟩ | ⟨sd, op, a2, n2, κ2, c2, m10, d2, v1, v2, v3, v4, v5, v6, v7, v8, v9, v10, v11, v12, v13, v14, v15, v16⟩
    · refine Or.inl ⟨nb, pl, v0, ⟨m', ?_, x2, x3, fun x j z1 z2 => ?_, x5.trans k2⟩, ?_⟩
      · rw [eF]
        refine (cl2_e x1).trans ?_
        rfl
      · exact (x4 x j z1 (by omega)).trans (k1 x j z1 z2)
      · have hF2 : FL (setI m19 142 (114 + r 7) r18) nb pl := v5.set (by decide) _ _
        have := dead _ nb pl hF2 ((hG1.tr v6).set (by omega) _ _)
        rw [v2, cl2_so, v3, cl2_so, v4, cl2_so, mus_d hF2.1, cl1_so]
        exact this
    have hz := z_mo_le hf
    have hZ := show_pos hf sd op
    have hZ30 := z_show_len hf (side := sd) (br := 0) v2
    generalize hZd : z_show r sd op 0 = Z at *
    have r2 := rrm c2 (v8.trans y2.2)
    have hF2 : CF c2 t r := ⟨(v7 t 0 (by omega) (by omega)).trans hF1.1, (v7 t 1 (by omega) (by omega)).trans hF1.2.1, (v7 t 3 (by omega) (by omega)).trans hF1.2.2⟩
    have eW := whole_e hF2 hf v1 v2
    rw [hZd] at eW
    have eF2 : fX6_readSeen mc = cl2 (fX6_takeName 15 c2) fun r22 m23 => if r22 = (0 : Int32) then fX6_readSeen_90 m23 else cl2 (fX6_takeWhole (nI 0) (nI (Z.length - 1)) m23) fun r27 m28 => if r27 = (0 : Int32) then fX6_readSeen_90 m28 else cl2 (fX6_copyWord y (setI m28 y 4 (m28.1 1 7))) fun r32 m33 => if r32 = (0 : Int32) then some ((0 : Int32), m33) else if ((m33.1 y 4) + (m33.1 y 1)) ≤ nI Z.length then cl1 (fX6_step m33) fun m38 => some ((1 : Int32), (setI m38 (rr m38 1 2) 11 ((m38.1 (rr m38 1 2) 11) + (1 : Int32)))) else cl2 (fX6_fail (7 : Int32) m33) fun r42 m43 => ck (r42 = (0 : Int32) ∨ r42 = (1 : Int32)) (some (r42, m43)) := by
      rw [eF, v3, cl2_so, if_neg (by decide), r2, v5, v6]
      refine (cl2_e eW).trans ?_
      have e : nI Z.length - (1 : Int32) = nI (Z.length - 1) := by rw [zl_1, zs_sub hZ]
      rw [e]
      rfl
    have hM2 : LM (setI d2 142 (114 + r 7) (nI op)) N b a2 n2 κ2 := v12.tb (fun x j z => sI_na (by omega))
    have hG2 : Gf d0 (setI d2 142 (114 + r 7) (nI op)) := (hG1.tr ⟨fun x j z1 z2 z3 z4 z5 => v14 x j (by omega) z2 (by omega), v15⟩).set (by omega) _ _
    have k3 : ∀ x j, x ≠ 1 → ¬ (t ≤ x ∧ x ≤ t + 38) → c2.1 x j = c0.1 x j := fun x j q1 q2 => (v7 x j (by omega) (by omega)).trans (k1 x j q1 q2)
    -- from
    rcases u_n v4 hM2 15 30 (by decide) (by decide) (by decide) with ⟨x1, x2⟩ | ⟨a3, n3, κ3, c3, d3, x1, x2, x3, x4, x5, x6, x7⟩
    · refine Or.inl ⟨1, a2, by omega, (x1.cx (t := t) (m0 := c0) k3 (v8.trans k2)).eq (fun m' e => ?_), ?_⟩
      · rw [eF2]
        refine Eq.trans (cl2_e e) ?_
        rfl
      · have := dead _ 1 a2 (wr_FL (setI d2 142 (114 + r 7) (nI op)) 1 a2) (hG2.wr _ _)
        rw [v9, cl2_so, v10, cl2_so, v11, cl2_so, x2, cl1_so]
        exact this
    -- how far it shows, for the reference
    have m3 : ∀ k, k < 186 → d3.1 142 k = nI (if k = 108 + r 7 then sd else if k = 114 + r 7 then op else r k) := fun k hk => by
      rw [x6.1 142 k (by omega) (by omega)]
      by_cases z1 : k = 114 + r 7
      · subst z1
        rw [sI_eq, if_neg (by omega), if_pos rfl]
      · rw [sI_nj z1]
        by_cases z2 : k = 108 + r 7
        · subst z2
          rw [v13, if_pos rfl]
        · rw [v14 142 k (by omega) (by omega) (by omega), hMR1 k hk, if_neg z2, if_neg z1]
    have q0 : (fun k => if k = 108 + r 7 then sd else if k = 114 + r 7 then op else r k) 0 = r 0 := by
      dsimp only
      rw [if_neg (by omega), if_neg (by omega)]
    have q1 : (fun k => if k = 108 + r 7 then sd else if k = 114 + r 7 then op else r k) 1 = r 1 := by
      dsimp only
      rw [if_neg (by omega), if_neg (by omega)]
    have q3 : (fun k => if k = 108 + r 7 then sd else if k = 114 + r 7 then op else r k) 3 = r 3 := by
      dsimp only
      rw [if_neg (by omega), if_neg (by omega)]
    have elay := fX11_lay_e (m := d3) (a := 142) (Or.inr rfl) (r := fun k => if k = 108 + r 7 then sd else if k = 114 + r 7 then op else r k) m3 (z_fan_cg q0 q1 q3 hf) (side := sd) (op := op) (br := 0) v1 (by rw [z_mo_cg q0 q1 q3]; exact v2) (by decide)
    rw [z_show_cg q0 q1 q3, hZd] at elay
    have e108 : d3.1 142 (108 + r 7) = nI sd := by rw [m3 _ (by omega), if_pos rfl]
    have e114 : d3.1 142 (114 + r 7) = nI op := by rw [m3 _ (by omega), if_neg (by omega), if_pos rfl]
    have hM4 : LM (wl d3 147 0 Z) N b a3 n3 κ3 := x5.tb (fun x j z => wl_na (by omega))
    have hG4 : Gf d0 (wl d3 147 0 Z) := (hG2.tr x6.gf).tr ⟨fun x j z1 z2 z3 z4 z5 => wl_na z5, rfl⟩
    have eG2 : (cl2 (fX11_side d1) fun r4 m5 => cl2 (fX11_mostOpen 142 (setI m5 142 (108 + r 7) r4)) fun r9 m10 => cl2 (fX11_number (0 : Int32) r9 m10) fun r13 m14 => cl1 (fX11_must 30 (setI m14 142 (114 + r 7) r13)) fun m18 => if (m18.1 138 13) = (0 : Int32) then (cl2 (fX11_lay 142 ((m18.1 142 (108 + r 7))) ((m18.1 142 (114 + r 7))) (0 : Int32) m18) fun r24 m25 => fX11_seenLine_94 (nI (r 7)) r24 m25) else fX11_seenLine_94 (nI (r 7)) (1 : Int32) m18) = fX11_seenLine_94 (nI (r 7)) (nI Z.length) (wl d3 147 0 Z) := by
      rw [v9, cl2_so, v10, cl2_so, v11, cl2_so, x4, cl1_so, x5.2.2.2, if_pos (by decide), e108, e114]
      exact cl2_e elay
    rw [eG2]
    have eN : nI Z.length - (1 : Int32) = nI (Z.length - 1) := by rw [zl_1, zs_sub hZ]
    have k4 : ∀ x j, x ≠ 1 → ¬ (t ≤ x ∧ x ≤ t + 38) → c3.1 x j = c0.1 x j := fun x j q1 q2 => (x3.1 x j (by omega)).trans (k3 x j q1 q2)
    have k4' : c3.2 = c0.2 := x3.2.trans (v8.trans k2)
    -- from where
    rcases u_w x2 hM4 (lo := 0) (hi := Z.length - 1) (by omega) (by omega) with ⟨nb, w0, w1, w2⟩ | ⟨pf, a4, n4, κ4, c4, d4, w1, w2, w3, w4, w5, w6, w7, w8, w9, w10⟩
    · refine Or.inl ⟨nb, a3, w0, (w1.cx (t := t) (m0 := c0) k4 k4').eq (fun m' e => ?_), ?_⟩
      · rw [eF2, x1, cl2_so, if_neg (by decide)]
        refine Eq.trans (cl2_e e) ?_
        rfl
      · have hF3 : FL (setI (wrM (wl d3 147 0 Z) nb a3) 142 (120 + r 7) (nI 0)) nb a3 := (wr_FL _ _ _).set (by decide) _ _
        obtain ⟨m', g1, g2, g3⟩ := s151_d h70 hF3
        refine ⟨m', ?_, g2, ((hG4.wr _ _).set (by omega) _ _).tr g3⟩
        rw [← g1]
        unfold fX11_seenLine_94
        rw [eN]
        refine (cl2_e w2).trans ?_
        have i13 : (setI (wrM (wl d3 147 0 Z) nb a3) 142 (120 + r 7) (nI 0)).1 138 13 = nI 1 := hF3.1
        simp (disch := omega) only [mw_d hF3.1, i13, cl2_so, cl1_so, ck_tr, zl_0, zl_1, zl_2, zl_3, zl_4, zl_5, zl_6, zl_7, zl_8, zl_9, zl_10, zl_11, zl_12, zl_15, zl_16, zl_20, zl_24, zl_25, zl_30, zl_31, zl_32, zl_33, zl_44, zl_48, zl_50, zl_57, zl_59, zl_60, zl_61, zl_62, zl_63, zl_64, zl_68, zl_97, zl_99, zl_100, zl_104, zl_108, zl_114, zl_120, zl_122, zl_126, zl_132, zl_180, zl_181, zl_186, zl_255, zl_900, zl_930, zl_1000, zl_1000000, nI_add, pk_mul, zs_sub, zs_lt, zs_le, zs_eq, zs_inb, zs_cl, zm_eq, zm_eq2, zm_lt, zm_le, mz_lt, mz_le, mm_eq, zs_bit, zs_or1, zs_div, zs_rem, ck_pos, if_pos, if_neg, true_or, or_true, true_and, and_true, false_or, or_false, false_and, and_false, not_true, not_false_iff, if_true, if_false, eq_self, Bool.false_eq_true, cl2_id, Bool.not_true, Bool.not_false]
    have hL4 : LC (setI c4 y 4 (nI pf)) N b a4 n4 κ4 := w4.cp (fun j => sI_na (by omega)) (fun j => sI_na (by omega))
    have hM5 : LM (setI d4 142 (120 + r 7) (nI pf)) N b a4 n4 κ4 := w8.tb (fun x j z => sI_na (by omega))
    have hG5 : Gf d0 (setI d4 142 (120 + r 7) (nI pf)) := (hG4.tr w9.gf).set (by omega) _ _
    have k5 : ∀ x j, x ≠ 1 → ¬ (x = y ∧ 2 ≤ j ∧ j ≤ 4) → (setI c4 y 4 (nI pf)).1 x j = mc.1 x j := fun x j z1 z2 => by
      rw [sI_1, if_neg (by omega), w5.1 x j (by omega), x3.1 x j (by omega), v7 x j (by omega) (by omega), y2.1 x j (by omega)]
    have k5' : (setI c4 y 4 (nI pf)).2 = c0.2 := w5.2.trans k4'
    have eF3 : fX6_readSeen mc = cl2 (fX6_copyWord y (setI c4 y 4 (nI pf))) fun r32 m33 => if r32 = (0 : Int32) then some ((0 : Int32), m33) else if ((m33.1 y 4) + (m33.1 y 1)) ≤ nI Z.length then cl1 (fX6_step m33) fun m38 => some ((1 : Int32), (setI m38 (rr m38 1 2) 11 ((m38.1 (rr m38 1 2) 11) + (1 : Int32)))) else cl2 (fX6_fail (7 : Int32) m33) fun r42 m43 => ck (r42 = (0 : Int32) ∨ r42 = (1 : Int32)) (some (r42, m43)) := by
      rw [eF2, x1, cl2_so, if_neg (by decide), w3, cl2_so, if_neg (by decide), w6]
    have e120 : (setI d4 142 (120 + r 7) (nI pf)).1 142 (120 + r 7) = nI pf := sI_eq _ _ _ _
    by_cases hk' : κ4 = 1
    · obtain ⟨c5, g1, g2, g3, g4, g5⟩ := cw_1 hL4 hk' (y := y) (by omega)
      obtain ⟨o1, o2, o3, o4, o5, o6⟩ := id w4.2.2
      have hn8 := (o5 hk').1
      have hn1' := o4 (by omega)
      have cy4 : c5.1 y 4 = nI pf := (g3 y 4 (by omega) (by omega)).trans (sI_eq _ _ _ _)
      have cy1 : c5.1 y 1 = nI n4 := by
        have := g2.1
        rw [wL_len] at this
        exact this
      have h8' := (hM5.2.1.2.2.2.1 hk').1
      by_cases hbe : pf + n4 ≤ Z.length
      · obtain ⟨a5, n5, κ5, hT5⟩ := Tk_ex N b w4.bd.1
        obtain ⟨c6, s1, s2, s3, -⟩ := g5.st hT5
        obtain ⟨d5, p1, p2, p3, p4, p5⟩ := kw_1 hM5 hT5 hk' (fr := 132 + 8 * r 7) (by omega)
        have r6 := rrm c6 (s3.2.trans (g4.trans (k5'.trans fr2.symm)))
        have ck6 : ∀ x j, x ≠ 1 → ¬ (x = y ∧ 1 ≤ j ∧ j ≤ 4) → x ≠ y + 1 → c6.1 x j = mc.1 x j := fun x j z1 z2 z3 => (s3.1 x j (by omega)).trans ((g3 x j (by omega) z3).trans (k5 x j z1 (by omega)))
        have c611 : c6.1 t 11 = nI (r 7) := (ck6 t 11 (by omega) (by omega) (by omega)).trans c11
        have m141 : ∀ k, k < 186 → k ≠ 108 + r 7 → k ≠ 114 + r 7 → k ≠ 120 + r 7 → ¬ (132 + 8 * r 7 ≤ k ∧ k < 132 + 8 * r 7 + n4) → d5.1 142 k = nI (r k) := fun k z1 z2 z3 z4 z5 => by
          rw [p4 142 k (by omega) (by omega) (by omega), sI_nj z4, w9.1 142 k (by omega) (by omega), wl_na (by decide), m3 k z1, if_neg z2, if_neg z3]
        let r' : Nat → Nat := fun k => if k = 7 then r 7 + 1 else if k = 108 + r 7 then sd else if k = 114 + r 7 then op else if k = 120 + r 7 then pf else if k = 126 + r 7 then n4 else spn r b a4 (132 + 8 * r 7) n4 k
        have er : ∀ k, k ≠ 7 → k ≠ 108 + r 7 → k ≠ 114 + r 7 → k ≠ 120 + r 7 → k ≠ 126 + r 7 → ¬ (132 + 8 * r 7 ≤ k ∧ k < 132 + 8 * r 7 + n4) → r' k = r k := fun k z1 z2 z3 z4 z5 z6 => by
          show (if k = 7 then r 7 + 1 else if k = 108 + r 7 then sd else if k = 114 + r 7 then op else if k = 120 + r 7 then pf else if k = 126 + r 7 then n4 else spn r b a4 (132 + 8 * r 7) n4 k) = r k
          rw [if_neg z1, if_neg z2, if_neg z3, if_neg z4, if_neg z5, spn_out z6]
        have ex : ∀ k, (k < 7 ∨ 8 ≤ k ∧ k < 108 ∨ 180 ≤ k) → r' k = r k := fun k z => er k (by omega) (by omega) (by omega) (by omega) (by omega) (by omega)
        have er7 : r' 7 = r 7 + 1 := rfl
        have er108 : r' (108 + r 7) = sd := by
          show (if 108 + r 7 = 7 then r 7 + 1 else if 108 + r 7 = 108 + r 7 then sd else _) = sd
          rw [if_neg (by omega), if_pos rfl]
        have er114 : r' (114 + r 7) = op := by
          show (if 114 + r 7 = 7 then r 7 + 1 else if 114 + r 7 = 108 + r 7 then sd else if 114 + r 7 = 114 + r 7 then op else _) = op
          rw [if_neg (by omega), if_neg (by omega), if_pos rfl]
        have er120 : r' (120 + r 7) = pf := by
          show (if 120 + r 7 = 7 then r 7 + 1 else if 120 + r 7 = 108 + r 7 then sd else if 120 + r 7 = 114 + r 7 then op else if 120 + r 7 = 120 + r 7 then pf else _) = pf
          rw [if_neg (by omega), if_neg (by omega), if_neg (by omega), if_pos rfl]
        have er126 : r' (126 + r 7) = n4 := by
          show (if 126 + r 7 = 7 then r 7 + 1 else if 126 + r 7 = 108 + r 7 then sd else if 126 + r 7 = 114 + r 7 then op else if 126 + r 7 = 120 + r 7 then pf else if 126 + r 7 = 126 + r 7 then n4 else _) = n4
          rw [if_neg (by omega), if_neg (by omega), if_neg (by omega), if_neg (by omega), if_pos rfl]
        have erl : ∀ c, c < n4 → r' (132 + 8 * r 7 + c) = b (a4 + c) - 97 := fun c hc => by
          show (if 132 + 8 * r 7 + c = 7 then r 7 + 1 else if 132 + 8 * r 7 + c = 108 + r 7 then sd else if 132 + 8 * r 7 + c = 114 + r 7 then op else if 132 + 8 * r 7 + c = 120 + r 7 then pf else if 132 + 8 * r 7 + c = 126 + r 7 then n4 else spn r b a4 (132 + 8 * r 7) n4 (132 + 8 * r 7 + c)) = _
          rw [if_neg (by omega), if_neg (by omega), if_neg (by omega), if_neg (by omega), if_neg (by omega), spn_at hc]
        have emo : z_mo r' = z_mo r := z_mo_cg (ex 0 (by omega)) (ex 1 (by omega)) (ex 3 (by omega))
        have eshow : ∀ x y, z_show r' x y 0 = z_show r x y 0 := fun x y => z_show_cg (ex 0 (by omega)) (ex 1 (by omega)) (ex 3 (by omega)) x y 0
        have ezo : ∀ w, w < r 7 → z_seen r' w = z_seen r w := fun w hw => by
          unfold z_seen
          have := (hK.S w hw).2.1
          rw [er (126 + w) (by omega) (by omega) (by omega) (by omega) (by omega) (by omega)]
          exact z_w_cg (fun k hk => er _ (by omega) (by omega) (by omega) (by omega) (by omega) (by omega))
        have ezn : z_seen r' (r 7) = wL b a4 n4 := by
          unfold z_seen
          rw [er126]
          unfold z_w wL
          apply List.map_congr_left
          intro k hk
          exact erl k (List.mem_range.mp hk)
        refine Or.inr ⟨a5, n5, κ5, r', s, setI c6 t 11 (nI (r 7 + 1)), setI (setI d5 142 (126 + r 7) (nI n4)) 142 7 (nI (r 7 + 1)), ?_, ?_, ⟨⟨fun x j z1 z2 => ?_, ?_⟩, s2.cp (fun j => sI_na (by omega)) (fun j => sI_na (by omega)), ?_, ?_, ⟨⟨?_, ?_, ?_⟩, ⟨?_, ?_, ?_, ?_, ?_⟩, ?_, ?_, fun w hw => ?_, ?_⟩, ?_, ?_⟩, ⟨?_, p2.tb (fun x j z => (sI_na (by omega)).trans (sI_na (by omega))), ?_, fun k hk => ?_, fun k hk => ?_⟩, ⟨fun q => absurd q (by decide), fun _ => ⟨OKr.mk' (z_fan_cg (ex 0 (by omega)) (ex 1 (by omega)) (ex 3 (by omega)) hf) (fun k hk => ?_) ?_ ?_ ?_ ?_ ?_ (hK.W.cg hK.2.2.2.1 (fun k hk => ex k (by omega))) (hK.I.cg hK.2.2.2.2.1 (fun k hk => ex k (by omega))) (fun w hw => ?_) (hK.B.cg hK.2.2.2.2.2.2.1 (fun k hk => ex k (by omega))) (hK.D.cg hK.W hK.2.2.2.1 (fun k hk => ex k (by omega))), hKs.cg (ex 0 (by omega)) (ex 1 (by omega)) (ex 3 (by omega)), ?_, ?_, ?_⟩⟩, ?_⟩
        · rw [eF3, g1, cl2_so, if_neg (by decide), cy4, cy1, nI_add, if_pos ((zs_le (by omega) (by omega)).mpr hbe), s1, cl1_so, r6, c611, zl_1, nI_add]
        · have i7 : (setI d5 142 (126 + r 7) (nI n4)).1 142 7 = nI (r 7) := (sI_nj (by omega)).trans (m141 7 (by omega) (by omega) (by omega) (by omega) (by omega))
          have i13 : (setI d5 142 (126 + r 7) (nI n4)).1 138 13 = nI 0 := (sI_na (by decide)).trans p2.2.2.2
          have e151 : fX11_seenLine_151 (nI (r 7)) (setI d4 142 (120 + r 7) (nI pf)) = some (setI (setI d5 142 (126 + r 7) (nI n4)) 142 7 (nI (r 7 + 1))) := by
            unfold fX11_seenLine_151 fX11_seenLine_190
            simp (disch := omega) only [p1, i13, i7, cl2_so, cl1_so, ck_tr, zl_0, zl_1, zl_2, zl_3, zl_4, zl_5, zl_6, zl_7, zl_8, zl_9, zl_10, zl_11, zl_12, zl_15, zl_16, zl_20, zl_24, zl_25, zl_30, zl_31, zl_32, zl_33, zl_44, zl_48, zl_50, zl_57, zl_59, zl_60, zl_61, zl_62, zl_63, zl_64, zl_68, zl_97, zl_99, zl_100, zl_104, zl_108, zl_114, zl_120, zl_122, zl_126, zl_132, zl_180, zl_181, zl_186, zl_255, zl_900, zl_930, zl_1000, zl_1000000, nI_add, pk_mul, zs_sub, zs_lt, zs_le, zs_eq, zs_inb, zs_cl, zm_eq, zm_eq2, zm_lt, zm_le, mz_lt, mz_le, mm_eq, zs_bit, zs_or1, zs_div, zs_rem, ck_pos, if_pos, if_neg, true_or, or_true, true_and, and_true, false_or, or_false, false_and, and_false, not_true, not_false_iff, if_true, if_false, eq_self, Bool.false_eq_true, cl2_id, Bool.not_true, Bool.not_false]
          unfold fX11_seenLine_94
          rw [eN]
          refine (cl2_e w7).trans ?_
          simp (disch := omega) only [mw_1 hM5 hk', hM5.2.2.2, e120, h8', cl2_so, cl1_so, ck_tr, zl_0, zl_1, zl_2, zl_3, zl_4, zl_5, zl_6, zl_7, zl_8, zl_9, zl_10, zl_11, zl_12, zl_15, zl_16, zl_20, zl_24, zl_25, zl_30, zl_31, zl_32, zl_33, zl_44, zl_48, zl_50, zl_57, zl_59, zl_60, zl_61, zl_62, zl_63, zl_64, zl_68, zl_97, zl_99, zl_100, zl_104, zl_108, zl_114, zl_120, zl_122, zl_126, zl_132, zl_180, zl_181, zl_186, zl_255, zl_900, zl_930, zl_1000, zl_1000000, nI_add, pk_mul, zs_sub, zs_lt, zs_le, zs_eq, zs_inb, zs_cl, zm_eq, zm_eq2, zm_lt, zm_le, mz_lt, mz_le, mm_eq, zs_bit, zs_or1, zs_div, zs_rem, ck_pos, if_pos, if_neg, true_or, or_true, true_and, and_true, false_or, or_false, false_and, and_false, not_true, not_false_iff, if_true, if_false, eq_self, Bool.false_eq_true, cl2_id, Bool.not_true, Bool.not_false]
          exact e151
        · rw [sI_na (by omega), ck6 x j z1 (by omega) (by omega)]
          exact fr1 x j z1 z2
        · exact s3.2.trans (g4.trans k5')
        · rw [sI_na (by omega), s3.1 1 3 (by omega), g3 1 3 (by omega) (by omega), sI_na (by omega), w5.1 1 3 (by omega), x3.1 1 3 (by omega), v7 1 3 (by omega) (by omega), y2.1 1 3 (by omega)]
          exact h3
        · rw [sI_na (by omega), s3.1 1 8 (by omega), g3 1 8 (by omega) (by omega), sI_na (by omega), w5.1 1 8 (by omega), x3.1 1 8 (by omega), v7 1 8 (by omega) (by omega), y2.1 1 8 (by omega)]
          exact h8
        · rw [sI_nj (by omega), ck6 t 0 (by omega) (by omega) (by omega), ex 0 (by omega)]
          exact hCT.1.1
        · rw [sI_nj (by omega), ck6 t 1 (by omega) (by omega) (by omega), ex 1 (by omega)]
          exact hCT.1.2.1
        · rw [sI_nj (by omega), ck6 t 3 (by omega) (by omega) (by omega), ex 3 (by omega)]
          exact hCT.1.2.2
        · rw [sI_nj (by omega), ck6 t 2 (by omega) (by omega) (by omega), ex 2 (by omega)]
          exact hCT.2.1.1
        · rw [sI_nj (by omega), ck6 t 7 (by omega) (by omega) (by omega), ex 5 (by omega)]
          exact hCT.2.1.2.1
        · rw [sI_nj (by omega), ck6 t 9 (by omega) (by omega) (by omega), ex 6 (by omega)]
          exact hCT.2.1.2.2.1
        · exact sI_eq _ _ _ _
        · rw [sI_nj (by omega), ck6 t 13 (by omega) (by omega) (by omega), ex 8 (by omega)]
          exact hCT.2.1.2.2.2.2
        · exact cW.cg hCT.W hK.W hK.2.2.2.1 (fun x j z1 z2 => (sI_na (by omega)).trans (ck6 x j (by omega) (by omega) (by omega))) (fun k hk => ex k (by omega))
        · exact cI.cg hCT.I hK.I hK.2.2.2.2.1 (fun x j z1 z2 => (sI_na (by omega)).trans (ck6 x j (by omega) (by omega) (by omega))) (fun k hk => ex k (by omega))
        · by_cases z : w = r 7
          · subst z
            rw [ezn, er108, er114, er120, hy]
            refine ⟨⟨?_, fun k hk => ?_⟩, ?_, ?_, ?_⟩
            · rw [sI_na (by omega), s3.1 y 1 (by omega)]
              exact g2.1
            · rw [sI_na (by omega), s3.1 (y + 1) k (by omega)]
              exact g2.2 k hk
            · rw [sI_na (by omega), s3.1 y 2 (by omega), g3 y 2 (by omega) (by omega), sI_nj (by omega), w5.1 y 2 (by omega), x3.1 y 2 (by omega)]
              exact v5
            · rw [sI_na (by omega), s3.1 y 3 (by omega), g3 y 3 (by omega) (by omega), sI_nj (by omega), w5.1 y 3 (by omega), x3.1 y 3 (by omega)]
              exact v6
            · rw [sI_na (by omega), s3.1 y 4 (by omega)]
              exact cy4
          · have hw' : w < r 7 := by
              have : w < r 7 + 1 := hw
              omega
            obtain ⟨u1, u2, u3, u4⟩ := hCT.S w hw'
            rw [ezo w hw', er (108 + w) (by omega) (by omega) (by omega) (by omega) (by omega) (by omega), er (114 + w) (by omega) (by omega) (by omega) (by omega) (by omega) (by omega), er (120 + w) (by omega) (by omega) (by omega) (by omega) (by omega) (by omega)]
            exact ⟨u1.cg (fun x j q => (sI_na (by omega)).trans (ck6 x j (by omega) (by omega) (by omega))), (sI_na (by omega)).trans ((ck6 _ _ (by omega) (by omega) (by omega)).trans u2), (sI_na (by omega)).trans ((ck6 _ _ (by omega) (by omega) (by omega)).trans u3), (sI_na (by omega)).trans ((ck6 _ _ (by omega) (by omega) (by omega)).trans u4)⟩
        · exact cB.cg hCT.B hK.2.2.2.2.2.2.1 (fun j => (sI_na (by omega)).trans (ck6 _ j (by omega) (by omega) (by omega))) (fun k hk => ex k (by omega))
        · rw [sI_nj (by omega), ck6 t 4 (by omega) (by omega) (by omega), ex 4 (by omega)]
          exact h4
        · exact (hP.cg (fun x j z => (sI_na (by omega)).trans (ck6 x j (by omega) (by omega) (by omega)))).cr (ex 0 (by omega)) (ex 1 (by omega))
        · exact ⟨fun x j z1 z2 z3 z4 z5 => (sI_na z3).trans ((sI_na z3).trans ((p4 x j (by omega) z2 (by omega)).trans (hG5.1 x j z1 z2 z3 z4 z5))), p5.trans hG5.2⟩
        · rw [sI_na (by decide), sI_na (by decide), p4 138 9 (by omega) (by omega) (by omega), sI_na (by decide), w9.1 138 9 (by omega) (by omega), wl_na (by decide), x6.1 138 9 (by omega) (by omega), sI_na (by decide), v14 138 9 (by omega) (by omega) (by omega), z2.1 138 9 (by omega) (by omega)]
          exact h9
        · by_cases z7 : k = 7
          · subst z7
            exact sI_eq _ _ _ _
          · rw [sI_nj z7]
            by_cases z126 : k = 126 + r 7
            · subst z126
              rw [sI_eq, er126]
            · rw [sI_nj z126]
              by_cases zl : 132 + 8 * r 7 ≤ k ∧ k < 132 + 8 * r 7 + n4
              · have := p3 (k - (132 + 8 * r 7)) (by omega)
                have el := erl (k - (132 + 8 * r 7)) (by omega)
                rw [show 132 + 8 * r 7 + (k - (132 + 8 * r 7)) = k by omega] at this el
                rw [this, el]
              · by_cases z120 : k = 120 + r 7
                · subst z120
                  rw [p4 142 _ (by omega) (by omega) (by omega), e120, er120]
                · by_cases z114 : k = 114 + r 7
                  · subst z114
                    rw [p4 142 _ (by omega) (by omega) (by omega), sI_nj z120, w9.1 142 _ (by omega) (by omega), wl_na (by decide), e114, er114]
                  · by_cases z108 : k = 108 + r 7
                    · subst z108
                      rw [p4 142 _ (by omega) (by omega) (by omega), sI_nj z120, w9.1 142 _ (by omega) (by omega), wl_na (by decide), e108, er108]
                    · rw [m141 k hk z108 z114 z120 zl, er k z7 z108 z114 z120 z126 zl]
        · rw [sI_na (by decide), sI_na (by decide), p4 144 k (by omega) (by omega) (by omega), sI_na (by decide), w9.1 144 k (by omega) (by omega), wl_na (by decide), x6.1 144 k (by omega) (by omega), sI_na (by decide), v14 144 k (by omega) (by omega) (by omega), z2.1 144 k (by omega) (by omega)]
          exact hMS k hk
        · by_cases z7 : k = 7
          · subst z7
            rw [er7]
            omega
          · by_cases z126 : k = 126 + r 7
            · subst z126
              rw [er126]
              omega
            · by_cases zl : 132 + 8 * r 7 ≤ k ∧ k < 132 + 8 * r 7 + n4
              · have el := erl (k - (132 + 8 * r 7)) (by omega)
                have := (o5 hk').2 (k - (132 + 8 * r 7)) (by omega)
                rw [show 132 + 8 * r 7 + (k - (132 + 8 * r 7)) = k by omega] at el
                rw [el]
                omega
              · by_cases z120 : k = 120 + r 7
                · subst z120
                  rw [er120]
                  omega
                · by_cases z114 : k = 114 + r 7
                  · subst z114
                    rw [er114]
                    omega
                  · by_cases z108 : k = 108 + r 7
                    · subst z108
                      rw [er108]
                      omega
                    · rw [er k z7 z108 z114 z120 z126 zl]
                      exact hK.2.1 k hk
        · rw [ex 2 (by omega)]
          exact hK.2.2.1
        · rw [ex 5 (by omega)]
          exact hK.2.2.2.1
        · rw [ex 6 (by omega)]
          exact hK.2.2.2.2.1
        · rw [er7]
          omega
        · rw [ex 8 (by omega)]
          exact hK.2.2.2.2.2.2.1
        · rw [er7] at hw
          by_cases z : w = r 7
          · subst z
            rw [er126, er108, er114, er120, emo, eshow, hZd]
            refine ⟨hn1', hn8, v1, v2, hbe, fun k hk => ?_⟩
            rw [erl k hk]
            have := (o5 hk').2 k hk
            omega
          · obtain ⟨w1', w2', w3', w4', w5', w6'⟩ := hK.S w (by omega)
            rw [er (126 + w) (by omega) (by omega) (by omega) (by omega) (by omega) (by omega), er (108 + w) (by omega) (by omega) (by omega) (by omega) (by omega) (by omega), er (114 + w) (by omega) (by omega) (by omega) (by omega) (by omega) (by omega), er (120 + w) (by omega) (by omega) (by omega) (by omega) (by omega) (by omega), emo, eshow]
            exact ⟨w1', w2', w3', w4', w5', fun k hk => by rw [er (132 + 8 * w + k) (by omega) (by omega) (by omega) (by omega) (by omega) (by omega)]; exact w6' k hk⟩
        · rw [ex 4 (by omega), ex 0 (by omega)]
          exact hK4
        · rw [ex 9 (by omega)]
          exact hK9
        · rw [ex 9 (by omega), ex 8 (by omega)]
          exact hK98
        · have := hT1.1
          have := hT5.1
          have := x2.2.2.1
          omega
      · refine Or.inl ⟨7, a4, by omega, ((flC_fl (m := c5) (nb := 7) (a := a4)).cx (t := t) (m0 := c0) (fun x j q1 q2 => (g3 x j (by omega) (by omega)).trans ((k5 x j q1 (by omega)).trans (fr1 x j q1 q2))) (g4.trans k5')).eq (fun m' e => ?_), ?_⟩
        · rw [← e, eF3, g1, cl2_so, if_neg (by decide), cy4, cy1, nI_add, if_neg (fun q => hbe ((zs_le (by omega) (by omega)).mp q))]
          simp (disch := omega) only [fail_e g5.2.1.1, cl2_so, cl1_so, ck_tr, zl_0, zl_1, zl_2, zl_3, zl_4, zl_5, zl_6, zl_7, zl_8, zl_9, zl_10, zl_11, zl_12, zl_15, zl_16, zl_20, zl_24, zl_25, zl_30, zl_31, zl_32, zl_33, zl_44, zl_48, zl_50, zl_57, zl_59, zl_60, zl_61, zl_62, zl_63, zl_64, zl_68, zl_97, zl_99, zl_100, zl_104, zl_108, zl_114, zl_120, zl_122, zl_126, zl_132, zl_180, zl_181, zl_186, zl_255, zl_900, zl_930, zl_1000, zl_1000000, nI_add, pk_mul, zs_sub, zs_lt, zs_le, zs_eq, zs_inb, zs_cl, zm_eq, zm_eq2, zm_lt, zm_le, mz_lt, mz_le, mm_eq, zs_bit, zs_or1, zs_div, zs_rem, ck_pos, if_pos, if_neg, true_or, or_true, true_and, and_true, false_or, or_false, false_and, and_false, not_true, not_false_iff, if_true, if_false, eq_self, Bool.false_eq_true, cl2_id, Bool.not_true, Bool.not_false]
        · obtain ⟨m', i1, i2, i3⟩ := s151_d h70 (wr_FL (setI d4 142 (120 + r 7) (nI pf)) 7 a4)
          refine ⟨m', ?_, i2, (hG5.wr _ _).tr i3⟩
          rw [← i1]
          unfold fX11_seenLine_94
          rw [eN]
          refine (cl2_e w7).trans ?_
          simp (disch := omega) only [mw_1 hM5 hk', hM5.2.2.2, e120, h8', hbe, hM5.2.1.1, wrong_e hM5.2.2.2, cl2_so, cl1_so, ck_tr, zl_0, zl_1, zl_2, zl_3, zl_4, zl_5, zl_6, zl_7, zl_8, zl_9, zl_10, zl_11, zl_12, zl_15, zl_16, zl_20, zl_24, zl_25, zl_30, zl_31, zl_32, zl_33, zl_44, zl_48, zl_50, zl_57, zl_59, zl_60, zl_61, zl_62, zl_63, zl_64, zl_68, zl_97, zl_99, zl_100, zl_104, zl_108, zl_114, zl_120, zl_122, zl_126, zl_132, zl_180, zl_181, zl_186, zl_255, zl_900, zl_930, zl_1000, zl_1000000, nI_add, pk_mul, zs_sub, zs_lt, zs_le, zs_eq, zs_inb, zs_cl, zm_eq, zm_eq2, zm_lt, zm_le, mz_lt, mz_le, mm_eq, zs_bit, zs_or1, zs_div, zs_rem, ck_pos, if_pos, if_neg, true_or, or_true, true_and, and_true, false_or, or_false, false_and, and_false, not_true, not_false_iff, if_true, if_false, eq_self, Bool.false_eq_true, cl2_id, Bool.not_true, Bool.not_false]
    · refine Or.inl ⟨1, a4, by omega, ((cw_0 hL4 hk' y).cx (t := t) (m0 := c0) (fun x j q1 q2 => (k5 x j q1 (by omega)).trans (fr1 x j q1 q2)) k5').eq (fun m' e => ?_), ?_⟩
      · rw [eF3]
        refine Eq.trans (cl2_e e) ?_
        rfl
      · obtain ⟨m', i1, i2, i3⟩ := s151_d h70 (wr_FL (setI d4 142 (120 + r 7) (nI pf)) 1 a4)
        refine ⟨m', ?_, i2, (hG5.wr _ _).tr i3⟩
        rw [← i1]
        unfold fX11_seenLine_94
        rw [eN]
        refine (cl2_e w7).trans ?_
        simp (disch := omega) only [mw_0 hM5 hk', wr_13, cl2_so, cl1_so, ck_tr, zl_0, zl_1, zl_2, zl_3, zl_4, zl_5, zl_6, zl_7, zl_8, zl_9, zl_10, zl_11, zl_12, zl_15, zl_16, zl_20, zl_24, zl_25, zl_30, zl_31, zl_32, zl_33, zl_44, zl_48, zl_50, zl_57, zl_59, zl_60, zl_61, zl_62, zl_63, zl_64, zl_68, zl_97, zl_99, zl_100, zl_104, zl_108, zl_114, zl_120, zl_122, zl_126, zl_132, zl_180, zl_181, zl_186, zl_255, zl_900, zl_930, zl_1000, zl_1000000, nI_add, pk_mul, zs_sub, zs_lt, zs_le, zs_eq, zs_inb, zs_cl, zm_eq, zm_eq2, zm_lt, zm_le, mz_lt, mz_le, mm_eq, zs_bit, zs_or1, zs_div, zs_rem, ck_pos, if_pos, if_neg, true_or, or_true, true_and, and_true, false_or, or_false, false_and, and_false, not_true, not_false_iff, if_true, if_false, eq_self, Bool.false_eq_true, cl2_id, Bool.not_true, Bool.not_false]
  · rw [if_neg h70]
    have e5 := beg_0 (r := r) hLM (i := 29) (by decide) hb (hMR 0 (by omega)) ⟨f0, f1⟩ 5
    refine Or.inl ⟨5, a, by omega, ((flC_fl (m := mc) (nb := 5) (a := a)).cx (t := t) (m0 := c0) fr1 fr2).eq (fun m' e => ?_), wrM mm 5 a, ?_, wr_FL _ _ _, hG.wr _ _⟩
    · rw [← e]
      unfold fX6_readSeen
      rw [rrm mc rfl, c11, if_neg (show ¬ nI (r 7) < (6 : Int32) from fun q => h70 ((zs_lt (a := r 7) (b := 6) (by omega) (by omega)).mp q))]
      simp (disch := omega) only [fail_e hL.2.1.1, cl2_so, cl1_so, ck_tr, zl_0, zl_1, zl_2, zl_3, zl_4, zl_5, zl_6, zl_7, zl_8, zl_9, zl_10, zl_11, zl_12, zl_15, zl_16, zl_20, zl_24, zl_25, zl_30, zl_31, zl_32, zl_33, zl_44, zl_48, zl_50, zl_57, zl_59, zl_60, zl_61, zl_62, zl_63, zl_64, zl_68, zl_97, zl_99, zl_100, zl_104, zl_108, zl_114, zl_120, zl_122, zl_126, zl_132, zl_180, zl_181, zl_186, zl_255, zl_900, zl_930, zl_1000, zl_1000000, nI_add, pk_mul, zs_sub, zs_lt, zs_le, zs_eq, zs_inb, zs_cl, zm_eq, zm_eq2, zm_lt, zm_le, mz_lt, mz_le, mm_eq, zs_bit, zs_or1, zs_div, zs_rem, ck_pos, if_pos, if_neg, true_or, or_true, true_and, and_true, false_or, or_false, false_and, and_false, not_true, not_false_iff, if_true, if_false, eq_self, Bool.false_eq_true, cl2_id, Bool.not_true, Bool.not_false]
    · refine (cl2_e e5).trans (seen_d (wr_13 _ _ _))
end SEEN
