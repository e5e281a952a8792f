/-! beats -/
section BEAT
variable {N : Nat} {b : Nat → Nat} {mc mm c0 d0 m : Me} {a n κ t a' n' κ' : Nat} {r s : Nat → Nat}
theorem bt143_d (h : m.1 138 13 = nI 1) : fX11_beatLine_143 m = some m := by
  unfold fX11_beatLine_143
  rw [wrong_d h, cl1_so]
theorem bt109_d (h : m.1 138 13 = nI 1) : fX11_beatLine_109 m = some m := by
  unfold fX11_beatLine_109
  rw [h, if_neg (by decide), bt143_d h]
theorem bts (ht : t = 3 ∨ t = 42) (hr0 : rr c0 1 2 = t) {a0 : Nat} : ∀ j i fu fu' (r : Nat → Nat) (mc mm : Me) (a n κ a' n' κ' : Nat), i + j = 6 → i < 6 → j + 1 < fu → j < fu' → RC c0 mc t N b a n κ true r s → RM d0 mm N b a' n' κ' r s → Tk N b (a + n) a' n' κ' → OKr r → OKs r s → r 4 ≤ r 0 → r 9 = 1 → r 8 = i → a0 ≤ a → κ ≠ 0 → LO t N b a0 c0 d0 (fX6_readBeats_18 fu (nI i) mc) (fX11_beatLine_18 fu' (nI 1) mm) := by
  intro j
  induction j with
  | zero =>
    intro i fu fu' r mc mm a n κ a' n' κ' hi hi6
    omega
  | succ j ih =>
    intro i fu fu' r mc mm a n κ a' n' κ' hi hi6 hfu hfu' hC hM hT hK hKs hK4 hK9 hK8 ha0 hκ0
    obtain ⟨fu, rfl⟩ : ∃ n', fu = n' + 1 := ⟨fu - 1, by omega⟩
    obtain ⟨fu', rfl⟩ : ∃ n', fu' = n' + 1 := ⟨fu' - 1, by omega⟩
    obtain ⟨⟨fr1, fr2⟩, hL, h3, h8, hCT, h4, hP⟩ := hC
    obtain ⟨hG, hLM, h9, hMR, hMS⟩ := hM
    have hf := hK.1
    obtain ⟨f0, f1, f2, f3, f4⟩ := id hf
    have hz := z_mo_le hf
    have rrm : ∀ m : Me, m.2 = mc.2 → rr m 1 2 = t := fun m e => by
      rw [← hr0]
      unfold Jvm.Pilot.CFanPartsLaw_law_r1864_615eae.rr
      rw [e, fr2]
    obtain ⟨c1, e1, hL1, y2, -⟩ := hL.st hT
    have hn1 : 1 ≤ n := hL.2.2.2.2.2.1 hκ0
    have hlt : a + n ≤ a' := hT.1
    have r1 := rrm c1 y2.2
    have hF1 : CF c1 t r := ⟨(y2.1 t 0 (by omega)).trans hCT.1.1, (y2.1 t 1 (by omega)).trans hCT.1.2.1, (y2.1 t 3 (by omega)).trans hCT.1.2.2⟩
    have eo := fX2_openings_e hF1 hf
    have em := mo_e (hMR 0 (by omega)) (hMR 1 (by omega)) (hMR 3 (by omega)) hf
    have eF : fX6_readBeats_18 (fu + 1) (nI i) mc = cl2 (fX6_isWholeWithin (nI 0) (nI (z_mo r)) c1) fun r25 m26 => if r25 = (0 : Int32) then some ((0 : Int32), m26) else if nI i < (6 : Int32) then ck (inb (nI i) 6) (cl1 (fX6_step (setI (setI m26 ((rr m26 1 2) + 6) (nI i).toNatClampNeg (m26.1 1 7)) (rr m26 1 2) 13 (nI i + (1 : Int32)))) fun m35 => if (m35.1 1 4) = (4 : Int32) then fX6_readBeats_18 fu ((nI i + (1 : Int32))) m35 else some ((1 : Int32), m35)) else cl2 (fX6_fail (5 : Int32) m26) fun r39 m40 => ck (r39 = (0 : Int32) ∨ r39 = (1 : Int32)) (some (r39, m40)) := by
      rw [fX6_readBeats_18, if_neg (show ¬ (6 : Int32) < nI i from fun q => by have := (zs_lt (a := 6) (b := i) (by omega) (by omega)).mp q; omega), e1, cl1_so, r1]
      refine (cl2_e eo).trans ?_
      have e : nI (z_mo r + 1) - (1 : Int32) = nI (z_mo r) := by rw [zl_1, zs_sub (by omega), Nat.add_sub_cancel]
      rw [e]
      rfl
    have eG : fX11_beatLine_18 (fu' + 1) (nI 1) mm = cl2 (fX11_number (nI 0) (nI (z_mo r)) mm) fun r9 m10 => if (m10.1 138 13) = (0 : Int32) then ck (inb ((180 : Int32) + (m10.1 142 8)) 186) (cl2 (fX11_comma (setI (setI m10 142 ((180 : Int32) + (m10.1 142 8)).toNatClampNeg r9) 142 8 (((setI m10 142 ((180 : Int32) + (m10.1 142 8)).toNatClampNeg r9).1 142 8) + (1 : Int32)))) fun r15 m16 => if r15 = (0 : Int32) then fX11_beatLine_153 (fX11_beatLine_18 fu') r15 m16 else if (m16.1 142 8) = (6 : Int32) then if (m16.1 138 6) = (3 : Int32) then fX11_beatLine_109 m16 else cl1 (fX11_wrong (1 : Int32) (m16.1 138 4) m16) fun m22 => fX11_beatLine_109 m22 else fX11_beatLine_153 (fX11_beatLine_18 fu') r15 m16) else some m10 := by
      rw [fX11_beatLine_18, if_neg (by decide)]
      exact cl2_e em
    have k1 : ∀ x j, x ≠ 1 → ¬ (t ≤ x ∧ x ≤ t + 38) → c1.1 x j = c0.1 x j := fun x j q1 q2 => (y2.1 x j (by omega)).trans (fr1 x j q1 q2)
    have k2 : c1.2 = c0.2 := y2.2.trans fr2
    by_cases hk' : κ' = 2
    · obtain ⟨c2, i1, i2, i3, i4⟩ := iw_e (lo := 0) (hi := z_mo r) (by omega) (by omega) hk' hL1
      by_cases hv : 0 ≤ wv b a' n' ∧ wv b a' n' ≤ z_mo r
      · rw [if_pos hv] at i4
        generalize hvd : wv b a' n' = v at *
        obtain ⟨a2, n2, κ2, hT2⟩ := Tk_ex N b hL1.bd.1
        obtain ⟨d1, p1, p2, p3⟩ := num_1 hLM hT2 (lo := 0) (hi := z_mo r) (by omega) (by omega) hk' (by rw [hvd]; exact hv)
        rw [hvd] at p1
        have r2 := rrm c2 (i2.2.trans y2.2)
        have hL2 : LC (setI (setI c2 (t + 6) i (nI v)) t 13 (nI (i + 1))) N b a' n' κ' := i1.cp (fun j => (sI_na (by omega)).trans (sI_na (by omega))) (fun j => (sI_na (by omega)).trans (sI_na (by omega)))
        obtain ⟨c3, s1, s2, s3, -⟩ := hL2.st hT2
        have d18 : d1.1 142 8 = nI i := (p3.1 142 8 (by omega) (by omega)).trans ((hMR 8 (by omega)).trans (by rw [hK8]))
        have d18' : (setI d1 142 (180 + i) (nI v)).1 142 8 = nI i := (sI_nj (by omega)).trans d18
        have hM2 : LM (setI (setI d1 142 (180 + i) (nI v)) 142 8 (nI (i + 1))) N b a2 n2 κ2 := p2.tb (fun x j z => (sI_na (by omega)).trans (sI_na (by omega)))
        have eF2 : fX6_readBeats_18 (fu + 1) (nI i) mc = if (c3.1 1 4) = (4 : Int32) then fX6_readBeats_18 fu (nI (i + 1)) c3 else some ((1 : Int32), c3) := by
          rw [eF, i4, cl2_so, if_neg (by decide), if_pos (show nI i < (6 : Int32) from (zs_lt (a := i) (b := 6) (by omega) (by omega)).mpr hi6), ck_pos ((zs_inb (by omega)).mpr hi6), zs_cl (by omega), r2, i3, zl_1, nI_add, s1, cl1_so]
        have eG2 : fX11_beatLine_18 (fu' + 1) (nI 1) mm = cl2 (fX11_comma (setI (setI d1 142 (180 + i) (nI v)) 142 8 (nI (i + 1)))) fun r15 m16 => if r15 = (0 : Int32) then fX11_beatLine_153 (fX11_beatLine_18 fu') r15 m16 else if (m16.1 142 8) = (6 : Int32) then if (m16.1 138 6) = (3 : Int32) then fX11_beatLine_109 m16 else cl1 (fX11_wrong (1 : Int32) (m16.1 138 4) m16) fun m22 => fX11_beatLine_109 m22 else fX11_beatLine_153 (fX11_beatLine_18 fu') r15 m16 := by
          have e180 : (180 : Int32) + nI i = nI (180 + i) := nI_add 180 i
          rw [eG, p1, cl2_so, p2.2.2.2, if_pos (by decide), d18, e180, ck_pos ((zs_inb (by omega)).mpr (by omega)), zs_cl (by omega), d18', zl_1, nI_add]
        have ck3 : ∀ x j, x ≠ 1 → ¬ (x = t + 6 ∧ j = i) → ¬ (x = t ∧ j = 13) → c3.1 x j = mc.1 x j := fun x j z1 z2 z3 => (s3.1 x j (by omega)).trans (((sI_1 _ _ _ _ _ _).trans (if_neg z3)).trans (((sI_1 _ _ _ _ _ _).trans (if_neg z2)).trans ((i2.1 x j (by omega)).trans (y2.1 x j (by omega)))))
        have h68 := hK.2.2.2.2.2.2.1
        let r' : Nat → Nat := fun k => if k = 8 then i + 1 else if k = 180 + i then v else r k
        have er : ∀ k, k ≠ 8 → k ≠ 180 + i → r' k = r k := fun k z1 z2 => by
          show (if k = 8 then i + 1 else if k = 180 + i then v else r k) = r k
          rw [if_neg z1, if_neg z2]
        have er8 : r' 8 = i + 1 := rfl
        have er180 : r' (180 + i) = v := by
          show (if 180 + i = 8 then i + 1 else if 180 + i = 180 + i then v else _) = v
          rw [if_neg (by omega), if_pos rfl]
        have emo : z_mo r' = z_mo r := z_mo_cg (er 0 (by omega) (by omega)) (er 1 (by omega) (by omega)) (er 3 (by omega) (by omega))
        have hK' : OKr r' := by
          refine OKr.mk' (z_fan_cg (er 0 (by omega) (by omega)) (er 1 (by omega) (by omega)) (er 3 (by omega) (by omega)) hf) (fun k hk => ?_) ?_ ?_ ?_ ?_ ?_ (hK.W.cg hK.2.2.2.1 (fun k hk => er k (by omega) (by omega))) (hK.I.cg hK.2.2.2.2.1 (fun k hk => er k (by omega) (by omega))) (hK.S.cg hK.2.2.2.2.2.1 (fun k hk => er k (by omega) (by omega))) (fun w hw => ?_) (hK.D.cg hK.W hK.2.2.2.1 (fun k hk => er k (by omega) (by omega)))
          · by_cases z8 : k = 8
            · subst z8
              rw [er8]
              omega
            · by_cases z180 : k = 180 + i
              · subst z180
                rw [er180]
                omega
              · rw [er k z8 z180]
                exact hK.2.1 k hk
          · rw [er 2 (by omega) (by omega)]
            exact hK.2.2.1
          · rw [er 5 (by omega) (by omega)]
            exact hK.2.2.2.1
          · rw [er 6 (by omega) (by omega)]
            exact hK.2.2.2.2.1
          · rw [er 7 (by omega) (by omega)]
            exact hK.2.2.2.2.2.1
          · rw [er8]
            omega
          · rw [er8] at hw
            rw [emo]
            by_cases z : w = i
            · subst z
              rw [er180]
              exact hv.2
            · rw [er (180 + w) (by omega) (by omega)]
              exact hK.B w (by omega)
        have hKs' : OKs r' s := hKs.cg (er 0 (by omega) (by omega)) (er 1 (by omega) (by omega)) (er 3 (by omega) (by omega))
        have hC' : RC c0 c3 t N b a2 n2 κ2 true r' s := by
          refine ⟨⟨fun x j z1 z2 => (ck3 x j z1 (by omega) (by omega)).trans (fr1 x j z1 z2), s3.2.trans (i2.2.trans k2)⟩, s2, ?_, ?_, ⟨⟨?_, ?_, ?_⟩, ⟨?_, ?_, ?_, ?_, ?_⟩, ?_, ?_, ?_, fun w hw => ?_⟩, ?_, ?_⟩
          · rw [s3.1 1 3 (by omega), sI_na (by omega), sI_na (by omega), i2.1 1 3 (by omega), y2.1 1 3 (by omega)]
            exact h3
          · rw [s3.1 1 8 (by omega), sI_na (by omega), sI_na (by omega), i2.1 1 8 (by omega), y2.1 1 8 (by omega)]
            exact h8
          · rw [ck3 t 0 (by omega) (by omega) (by omega), er 0 (by omega) (by omega)]
            exact hCT.1.1
          · rw [ck3 t 1 (by omega) (by omega) (by omega), er 1 (by omega) (by omega)]
            exact hCT.1.2.1
          · rw [ck3 t 3 (by omega) (by omega) (by omega), er 3 (by omega) (by omega)]
            exact hCT.1.2.2
          · rw [ck3 t 2 (by omega) (by omega) (by omega), er 2 (by omega) (by omega)]
            exact hCT.2.1.1
          · rw [ck3 t 7 (by omega) (by omega) (by omega), er 5 (by omega) (by omega)]
            exact hCT.2.1.2.1
          · rw [ck3 t 9 (by omega) (by omega) (by omega), er 6 (by omega) (by omega)]
            exact hCT.2.1.2.2.1
          · rw [ck3 t 11 (by omega) (by omega) (by omega), er 7 (by omega) (by omega)]
            exact hCT.2.1.2.2.2.1
          · rw [s3.1 t 13 (by omega), sI_eq, er8]
          · exact cW.cg hCT.W hK.W hK.2.2.2.1 (fun x j z1 z2 => ck3 x j (by omega) (by omega) (by omega)) (fun k hk => er k (by omega) (by omega))
          · exact cI.cg hCT.I hK.I hK.2.2.2.2.1 (fun x j z1 z2 => ck3 x j (by omega) (by omega) (by omega)) (fun k hk => er k (by omega) (by omega))
          · exact cS.cg hCT.S hK.S hK.2.2.2.2.2.1 (fun x j z1 z2 => ck3 x j (by omega) (by omega) (by omega)) (fun k hk => er k (by omega) (by omega))
          · have hw' : w < i + 1 := hw
            by_cases z : w = i
            · subst z
              rw [s3.1 (t + 6) w (by omega), sI_na (by omega), sI_eq, er180]
            · rw [ck3 (t + 6) w (by omega) (by omega) (by omega), er (180 + w) (by omega) (by omega)]
              exact hCT.B w (by omega)
          · rw [ck3 t 4 (by omega) (by omega) (by omega), er 4 (by omega) (by omega)]
            exact h4
          · exact (hP.cg (fun x j z => ck3 x j (by omega) (by omega) (by omega))).cr (er 0 (by omega) (by omega)) (er 1 (by omega) (by omega))
        have hMR2 : ∀ d : Me, (∀ k, d.1 142 k = (setI (setI d1 142 (180 + i) (nI v)) 142 8 (nI (i + 1))).1 142 k) → MR d 142 r' := fun d hd k hk => by
          rw [hd]
          by_cases z8 : k = 8
          · subst z8
            exact sI_eq _ _ _ _
          · rw [sI_nj z8]
            by_cases z180 : k = 180 + i
            · subst z180
              rw [sI_eq, er180]
            · rw [sI_nj z180, p3.1 142 k (by omega) (by omega), hMR k hk, er k z8 z180]
        have hG2 : Gf d0 (setI (setI d1 142 (180 + i) (nI v)) 142 8 (nI (i + 1))) := ((hG.tr p3.gf).set (by omega) _ _).set (by omega) _ _
        have h92 : (setI (setI d1 142 (180 + i) (nI v)) 142 8 (nI (i + 1))).1 138 9 = nI 0 := (sI_na (by decide)).trans ((sI_na (by decide)).trans ((p3.1 138 9 (by omega) (by omega)).trans h9))
        have hS2 : ∀ k, k < 62 → (setI (setI d1 142 (180 + i) (nI v)) 142 8 (nI (i + 1))).1 144 k = nI (s k) := fun k hk => (sI_na (by decide)).trans ((sI_na (by decide)).trans ((p3.1 144 k (by omega) (by omega)).trans (hMS k hk)))
        have ha2 : a0 < a2 := by
          have := hT2.1
          omega
        by_cases h44 : κ2 = 4
        · obtain ⟨a3, n3, κ3, hT3⟩ := Tk_ex N b s2.bd.1
          obtain ⟨d2, q1, q2, q3⟩ := com_1 hM2 hT3 h44
          have d28 : d2.1 142 8 = nI (i + 1) := (q3.1 142 8 (by omega) (by omega)).trans (sI_eq _ _ _ _)
          rw [eF2, s2.2.1.2.2, h44, if_pos (by decide), eG2, q1, cl2_so, if_neg (by decide), d28]
          by_cases h6 : i + 1 = 6
          · -- one too many
            rw [h6, if_pos (by decide)]
            obtain ⟨fu, rfl⟩ : ∃ n', fu = n' + 1 := ⟨fu - 1, by omega⟩
            obtain ⟨c4, t1, t2, t3, -⟩ := s2.st hT3
            have r4 := rrm c4 (t3.2.trans (s3.2.trans (i2.2.trans y2.2)))
            have hF4 : CF c4 t r' := ⟨(t3.1 t 0 (by omega)).trans hC'.2.2.2.2.1.1.1, (t3.1 t 1 (by omega)).trans hC'.2.2.2.2.1.1.2.1, (t3.1 t 3 (by omega)).trans hC'.2.2.2.2.1.1.2.2⟩
            have eo4 := fX2_openings_e hF4 hK'.1
            rw [emo] at eo4
            have hMR3 : MR d2 142 r' := hMR2 d2 (fun k => q3.1 142 k (by omega) (by omega))
            have em4 := mo_e (hMR3 0 (by omega)) (hMR3 1 (by omega)) (hMR3 3 (by omega)) hK'.1
            rw [emo] at em4
            have eF4 : fX6_readBeats_18 (fu + 1) (nI 6) c3 = cl2 (fX6_isWholeWithin (nI 0) (nI (z_mo r)) c4) fun r25 m26 => if r25 = (0 : Int32) then some ((0 : Int32), m26) else cl2 (fX6_fail (5 : Int32) m26) fun r39 m40 => ck (r39 = (0 : Int32) ∨ r39 = (1 : Int32)) (some (r39, m40)) := by
              rw [fX6_readBeats_18, if_neg (by decide), t1, cl1_so, r4]
              refine (cl2_e eo4).trans ?_
              have e : nI (z_mo r + 1) - (1 : Int32) = nI (z_mo r) := by rw [zl_1, zs_sub (by omega), Nat.add_sub_cancel]
              rw [e]
              rfl
            rw [eF4]
            have k4 : ∀ x j, x ≠ 1 → ¬ (t ≤ x ∧ x ≤ t + 38) → c4.1 x j = c0.1 x j := fun x j z1 z2 => (t3.1 x j (by omega)).trans (hC'.1.1 x j z1 z2)
            have k4' : c4.2 = c0.2 := t3.2.trans hC'.1.2
            have hG3 : Gf d0 d2 := hG2.tr q3.gf
            by_cases hk3 : κ3 = 2
            · have kM3 : kM κ3 = 3 := kM_3.mpr hk3
              have e7 := q2.2.1.2.2.2.2 hk3
              have hw := q2.wv_lt hk3
              obtain ⟨c5, j1, j2, j3, j4⟩ := iw_e (lo := 0) (hi := z_mo r) (by omega) (by omega) hk3 t2
              rw [q2.2.1.2.2.1, kM3, if_pos (by decide)]
              by_cases hv3 : 0 ≤ wv b a3 n3 ∧ wv b a3 n3 ≤ z_mo r
              · rw [if_pos hv3] at j4
                refine Or.inl ⟨5, a3, by omega, ((flC_fl (m := c5) (nb := 5) (a := a3)).cx (t := t) (m0 := c0) (fun x j z1 z2 => (j2.1 x j (by omega)).trans (k4 x j z1 z2)) (j2.2.trans k4')).eq (fun m' e => ?_), wrM d2 5 a3, ?_, wr_FL _ _ _, hG3.wr _ _⟩
                · rw [← e, j4, cl2_so, if_neg (by decide)]
                  simp (disch := omega) only [fail_e j1.2.1.1, cl2_so, cl1_so, ck_tr, zl_0, zl_1, zl_2, zl_3, zl_4, zl_5, zl_6, zl_7, zl_8, zl_9, zl_10, zl_11, zl_12, zl_15, zl_16, zl_20, zl_24, zl_25, zl_30, zl_31, zl_32, zl_33, zl_44, zl_48, zl_50, zl_57, zl_59, zl_60, zl_61, zl_62, zl_63, zl_64, zl_68, zl_97, zl_99, zl_100, zl_104, zl_108, zl_114, zl_120, zl_122, zl_126, zl_132, zl_180, zl_181, zl_186, zl_255, zl_900, zl_930, zl_1000, zl_1000000, nI_add, pk_mul, zs_sub, zs_lt, zs_le, zs_eq, zs_inb, zs_cl, zm_eq, zm_eq2, zm_lt, zm_le, mz_lt, mz_le, mm_eq, zs_bit, zs_or1, zs_div, zs_rem, ck_pos, if_pos, if_neg, true_or, or_true, true_and, and_true, false_or, or_false, false_and, and_false, not_true, not_false_iff, if_true, if_false, eq_self, Bool.false_eq_true, cl2_id, Bool.not_true, Bool.not_false]
                · unfold fX11_beatLine_109 fX11_beatLine_143
                  simp (disch := omega) only [q2.2.2.2, em4, e7, within_e, hv3, q2.2.1.1, wrong_e q2.2.2.2, cl2_so, cl1_so, ck_tr, zl_0, zl_1, zl_2, zl_3, zl_4, zl_5, zl_6, zl_7, zl_8, zl_9, zl_10, zl_11, zl_12, zl_15, zl_16, zl_20, zl_24, zl_25, zl_30, zl_31, zl_32, zl_33, zl_44, zl_48, zl_50, zl_57, zl_59, zl_60, zl_61, zl_62, zl_63, zl_64, zl_68, zl_97, zl_99, zl_100, zl_104, zl_108, zl_114, zl_120, zl_122, zl_126, zl_132, zl_180, zl_181, zl_186, zl_255, zl_900, zl_930, zl_1000, zl_1000000, nI_add, pk_mul, zs_sub, zs_lt, zs_le, zs_eq, zs_inb, zs_cl, zm_eq, zm_eq2, zm_lt, zm_le, mz_lt, mz_le, mm_eq, zs_bit, zs_or1, zs_div, zs_rem, ck_pos, if_pos, if_neg, true_or, or_true, true_and, and_true, false_or, or_false, false_and, and_false, not_true, not_false_iff, if_true, if_false, eq_self, Bool.false_eq_true, cl2_id, Bool.not_true, Bool.not_false]
              · rw [if_neg hv3] at j4
                refine Or.inl ⟨4, a3, by omega, ((flC_fl (m := c5) (nb := 4) (a := a3)).cx (t := t) (m0 := c0) (fun x j z1 z2 => (j2.1 x j (by omega)).trans (k4 x j z1 z2)) (j2.2.trans k4')).eq (fun m' e => ?_), wrM d2 4 a3, ?_, wr_FL _ _ _, hG3.wr _ _⟩
                · rw [← e, j4, cl2_so]
                  rfl
                · have hd := bt143_d (wr_13 d2 4 a3)
                  unfold fX11_beatLine_109
                  simp (disch := omega) only [q2.2.2.2, em4, e7, within_e, hv3, q2.2.1.1, wrong_e q2.2.2.2, hd, cl2_so, cl1_so, ck_tr, zl_0, zl_1, zl_2, zl_3, zl_4, zl_5, zl_6, zl_7, zl_8, zl_9, zl_10, zl_11, zl_12, zl_15, zl_16, zl_20, zl_24, zl_25, zl_30, zl_31, zl_32, zl_33, zl_44, zl_48, zl_50, zl_57, zl_59, zl_60, zl_61, zl_62, zl_63, zl_64, zl_68, zl_97, zl_99, zl_100, zl_104, zl_108, zl_114, zl_120, zl_122, zl_126, zl_132, zl_180, zl_181, zl_186, zl_255, zl_900, zl_930, zl_1000, zl_1000000, nI_add, pk_mul, zs_sub, zs_lt, zs_le, zs_eq, zs_inb, zs_cl, zm_eq, zm_eq2, zm_lt, zm_le, mz_lt, mz_le, mm_eq, zs_bit, zs_or1, zs_div, zs_rem, ck_pos, if_pos, if_neg, true_or, or_true, true_and, and_true, false_or, or_false, false_and, and_false, not_true, not_false_iff, if_true, if_false, eq_self, Bool.false_eq_true, cl2_id, Bool.not_true, Bool.not_false]
            · have kM3 : ¬ nI (kM κ3) = (3 : Int32) := fun q => hk3 (kM_3.mp ((zs_eq (by have := kM_le κ3; omega) (by omega)).mp q))
              rw [q2.2.1.2.2.1, if_neg kM3, q2.2.1.1]
              refine Or.inl ⟨1, a3, by omega, ((iw_n t2 hk3 (nI 0) (nI (z_mo r))).cx (t := t) (m0 := c0) k4 k4').eq (fun m' e => ?_), wrM d2 1 a3, ?_, wr_FL _ _ _, hG3.wr _ _⟩
              · rw [e, cl2_so]
                rfl
              · refine (cl1_e (wrong_e q2.2.2.2 1 a3)).trans ?_
                exact bt109_d (wr_13 _ _ _)
          · rw [if_neg (show ¬ nI (i + 1) = (6 : Int32) from fun q => h6 ((zs_eq (a := i + 1) (b := 6) (by omega) (by omega)).mp q))]
            unfold fX11_beatLine_153
            exact ih (i + 1) fu fu' r' c3 d2 a2 n2 κ2 a3 n3 κ3 (by omega) (by omega) (by omega) (by omega) hC' ⟨hG2.tr q3.gf, q2, (q3.1 138 9 (by omega) (by omega)).trans h92, hMR2 d2 (fun k => q3.1 142 k (by omega) (by omega)), fun k hk => (q3.1 144 k (by omega) (by omega)).trans (hS2 k hk)⟩ hT3 hK' hKs' (by rw [er 4 (by omega) (by omega), er 0 (by omega) (by omega)]; exact hK4) (by rw [er 9 (by omega) (by omega)]; exact hK9) er8 (by omega) (by omega)
        · have e4 : ¬ nI κ2 = (4 : Int32) := fun q => h44 ((zs_eq (a := κ2) (b := 4) (by have := s2.2.2.2.1; omega) (by omega)).mp q)
          obtain ⟨fu', rfl⟩ : ∃ n', fu' = n' + 1 := ⟨fu' - 1, by omega⟩
          rw [eF2, s2.2.1.2.2, if_neg e4, eG2, com_0 hM2 h44, cl2_so, if_pos (by decide)]
          refine Or.inr ⟨a2, n2, κ2, r', s, c3, setI (setI d1 142 (180 + i) (nI v)) 142 8 (nI (i + 1)), rfl, ?_, hC', ⟨hG2, hM2, h92, hMR2 _ (fun _ => rfl), hS2⟩, ⟨fun q => absurd q (by decide), fun _ => ⟨hK', hKs', ?_, ?_, ?_⟩⟩, ha2⟩
          · unfold fX11_beatLine_153
            rw [fX11_beatLine_18, if_pos (by decide)]
          · rw [er 4 (by omega) (by omega), er 0 (by omega) (by omega)]
            exact hK4
          · rw [er 9 (by omega) (by omega)]
            omega
          · rw [er 9 (by omega) (by omega), er8]
            omega
      · rw [if_neg hv] at i4
        refine Or.inl ⟨4, a', by omega, ((flC_fl (m := c2) (nb := 4) (a := a')).cx (t := t) (m0 := c0) (fun x j z1 z2 => (i2.1 x j (by omega)).trans (k1 x j z1 z2)) (i2.2.trans k2)).eq (fun m' e => ?_), wrM mm 4 a', ?_, wr_FL _ _ _, hG.wr _ _⟩
        · rw [← e, eF, i4, cl2_so]
          rfl
        · rw [eG, num_0 hLM (lo := 0) (hi := z_mo r) (by omega) (by omega) hk' hv, cl2_so, wr_13, if_neg (by decide)]
    · refine Or.inl ⟨1, a', by omega, ((iw_n hL1 hk' (nI 0) (nI (z_mo r))).cx (t := t) (m0 := c0) k1 k2).eq (fun m' e => ?_), wrM mm 1 a', ?_, wr_FL _ _ _, hG.wr _ _⟩
      · rw [eF, e, cl2_so]
        rfl
      · rw [eG, num_n hLM hk', cl2_so, wr_13, if_neg (by decide)]
theorem line_beat (ht : t = 3 ∨ t = 42) (hr0 : rr c0 1 2 = t) (hC : RC c0 mc t N b a n κ true r s) (hM : RM d0 mm N b a n κ r s) (hR : RP true r s) (hb : isB b a n κ 31 = true) : LO t N b a c0 d0 (fX6_readBeats mc) (cl2 (fX11_begins 31 (nI (if r 9 = 0 then 1 else 0)) (3 : Int32) mm) fun _ m14 => fX11_beatLine m14) := by
  obtain ⟨⟨fr1, fr2⟩, hL, h3, h8, hCT, h4, hP⟩ := id hC
  obtain ⟨hG, hLM, h9, hMR, hMS⟩ := hM
  obtain ⟨hK, hKs, hK4, hK9, hK98⟩ := hR.2 rfl
  have hf := hK.1
  obtain ⟨f0, f1, f2, f3, f4⟩ := id hf
  have rr0 : rr mc 1 2 = t := by
    rw [← hr0]
    unfold Jvm.Pilot.CFanPartsLaw_law_r1864_615eae.rr
    rw [fr2]
  have hk1 := (isB_1 hb).1
  have c13 := hCT.2.1.2.2.2.2
  have h68 := hK.2.2.2.2.2.2.1
  by_cases h90 : r 9 = 0
  · have h80 := hK98.mp h90
    rw [if_pos h90]
    obtain ⟨a1, n1, κ1, hT1⟩ := Tk_ex N b hL.bd.1
    obtain ⟨d1, e2, hM1, z2⟩ := beg_1 (r := r) hLM hT1 (by decide) hb (hMR 0 (by omega)) ⟨f0, f1⟩ (3 : Int32)
    have eF : fX6_readBeats mc = fX6_readBeats_18 FU (nI 0) mc := by
      unfold fX6_readBeats
      rw [rr0, c13, h80, if_pos (by decide)]
      rfl
    have eG : (cl2 (fX11_begins 31 (nI 1) (3 : Int32) mm) fun _ m14 => fX11_beatLine m14) = fX11_beatLine_18 FU (nI 1) (setI d1 142 9 (nI 1)) := by
      rw [e2, cl2_so]
      unfold fX11_beatLine
      rw [hM1.2.2.2, if_pos (by decide)]
      rfl
    rw [eF, eG]
    have er : ∀ k, k ≠ 9 → (fun k => if k = 9 then 1 else r k) k = r k := fun k z => if_neg z
    have hK' : OKr (fun k => if k = 9 then 1 else r k) := by
      refine OKr.mk' (z_fan_cg (er 0 (by omega)) (er 1 (by omega)) (er 3 (by omega)) hf) (fun k hk => ?_) hK.2.2.1 hK.2.2.2.1 hK.2.2.2.2.1 hK.2.2.2.2.2.1 hK.2.2.2.2.2.2.1 (hK.W.cg hK.2.2.2.1 (fun k hk => er k (by omega))) (hK.I.cg hK.2.2.2.2.1 (fun k hk => er k (by omega))) (hK.S.cg hK.2.2.2.2.2.1 (fun k hk => er k (by omega))) (hK.B.cg hK.2.2.2.2.2.2.1 (fun k hk => er k (by omega))) (hK.D.cg hK.W hK.2.2.2.1 (fun k hk => er k (by omega)))
      by_cases z : k = 9
      · subst z
        show 1 < 1000
        omega
      · rw [if_neg z]
        exact hK.2.1 k hk
    refine bts ht hr0 6 0 FU FU (fun k => if k = 9 then 1 else r k) mc (setI d1 142 9 (nI 1)) a n κ a1 n1 κ1 (by omega) (by omega) (FU_pos (by omega)) (FU_pos (by omega)) ⟨⟨fr1, fr2⟩, hL, h3, h8, ⟨hCT.1, hCT.2.1, cW.cg hCT.W hK.W hK.2.2.2.1 (fun _ _ _ _ => rfl) (fun k hk => er k (by omega)), cI.cg hCT.I hK.I hK.2.2.2.2.1 (fun _ _ _ _ => rfl) (fun k hk => er k (by omega)), cS.cg hCT.S hK.S hK.2.2.2.2.2.1 (fun _ _ _ _ => rfl) (fun k hk => er k (by omega)), cB.cg hCT.B hK.2.2.2.2.2.2.1 (fun _ => rfl) (fun k hk => er k (by omega))⟩, h4, hP.cr rfl rfl⟩ ⟨(hG.tr z2.gf).set (by omega) _ _, hM1.tb (fun x j z => sI_na (by omega)), (sI_na (by decide)).trans ((z2.1 138 9 (by omega) (by omega)).trans h9), fun k hk => ?_, fun k hk => (sI_na (by decide)).trans ((z2.1 144 k (by omega) (by omega)).trans (hMS k hk))⟩ hT1 hK' (hKs.cg rfl rfl rfl) hK4 rfl h80 (Nat.le_refl _) (by omega)
    by_cases z : k = 9
    · subst z
      exact sI_eq _ _ _ _
    · rw [sI_nj z, z2.1 142 k (by omega) (by omega), hMR k hk]
      dsimp only
      rw [if_neg z]
  · have h80 : r 8 ≠ 0 := fun q => h90 (hK98.mpr q)
    rw [if_neg h90]
    have e5 := beg_0 (r := r) hLM (i := 31) (by decide) hb (hMR 0 (by omega)) ⟨f0, f1⟩ 3
    refine Or.inl ⟨3, a, by omega, ((flC_fl (m := mc) (nb := 3) (a := a)).cx (t := t) (m0 := c0) fr1 fr2).eq (fun m' e => ?_), wrM mm 3 a, ?_, wr_FL _ _ _, hG.wr _ _⟩
    · rw [← e]
      unfold fX6_readBeats
      rw [rr0, c13, if_neg (show ¬ nI (r 8) ≤ (0 : Int32) from fun q => by have := (zs_le (a := r 8) (b := 0) (by omega) (by omega)).mp q; omega)]
      simp (disch := omega) only [fail_e hL.2.1.1, cl2_so, cl1_so, ck_tr, zl_0, zl_1, zl_2, zl_3, zl_4, zl_5, zl_6, zl_7, zl_8, zl_9, zl_10, zl_11, zl_12, zl_15, zl_16, zl_20, zl_24, zl_25, zl_30, zl_31, zl_32, zl_33, zl_44, zl_48, zl_50, zl_57, zl_59, zl_60, zl_61, zl_62, zl_63, zl_64, zl_68, zl_97, zl_99, zl_100, zl_104, zl_108, zl_114, zl_120, zl_122, zl_126, zl_132, zl_180, zl_181, zl_186, zl_255, zl_900, zl_930, zl_1000, zl_1000000, nI_add, pk_mul, zs_sub, zs_lt, zs_le, zs_eq, zs_inb, zs_cl, zm_eq, zm_eq2, zm_lt, zm_le, mz_lt, mz_le, mm_eq, zs_bit, zs_or1, zs_div, zs_rem, ck_pos, if_pos, if_neg, true_or, or_true, true_and, and_true, false_or, or_false, false_and, and_false, not_true, not_false_iff, if_true, if_false, eq_self, Bool.false_eq_true, cl2_id, Bool.not_true, Bool.not_false]
    · refine (cl2_e e5).trans (beat_d (wr_13 _ _ _))
end BEAT
