/-! a line; all lines -/
section LINES
variable {N : Nat} {b : Nat → Nat} {mc mm c0 d0 m : Me} {a n κ t a' n' κ' : Nat} {r s : Nat → Nat} {bg : Bool}
theorem cl1_id {F : Option Me} : cl1 F (fun x => some x) = F := by cases F <;> rfl
/-- a line's beginning, for the reference, where there is a fan -/
theorem beg_g (h : LM m N b a n κ) {i : Nat} (hi : i < 32) (hb : isB b a n κ i = true) (h0 : m.1 142 0 = nI (r 0)) (hr : 2 ≤ r 0 ∧ r 0 ≤ 10) {p : Prop} [Decidable p] (nb : Nat) (X : Me → Option Me) (L : Me → Option Me) : (cl2 (fX11_begins i (nI (if p then 1 else 0)) (nI nb) m) fun r13 m14 => if r13 = (0 : Int32) then X m14 else cl1 (L m14) fun m19 => fX11_readLine_203 m19) = cl2 (fX11_begins i (nI (if p then 1 else 0)) (nI nb) m) fun _ m14 => L m14 := by
  have : ∃ m', fX11_begins i (nI (if p then 1 else 0)) (nI nb) m = some (nI 1, m') := by
    by_cases q : p
    · rw [if_pos q]
      obtain ⟨a', n', κ', hT⟩ := Tk_ex N b h.bd.1
      obtain ⟨m', e, -⟩ := beg_1 h hT hi hb h0 hr (nI nb)
      exact ⟨m', e⟩
    · rw [if_neg q]
      exact ⟨_, beg_0 h hi hb h0 hr nb⟩
  obtain ⟨m', e⟩ := this
  rw [e, cl2_so, cl2_so, if_neg (by decide)]
  exact cl1_id
theorem fanl_d (h : m.1 138 13 = nI 1) : fX11_fanLine_18 m = some m := by
  rw [fn18, h, if_neg (by decide)]
theorem line_any (ht : t = 3 ∨ t = 42) (hr0 : rr c0 1 2 = t) (hC : RC c0 mc t N b a n κ bg r s) (hM : RM d0 mm N b a n κ r s) (hR : RP bg r s) : LO t N b a c0 d0 (fX6_readLine mc) (fX11_readLine mm) := by
  obtain ⟨⟨fr1, fr2⟩, hL, h3, h8, hCT, h4, hP⟩ := id hC
  obtain ⟨hG, hLM, h9, hMR, hMS⟩ := id hM
  have n0 := isn_e hL (i := 0) (by decide)
  have n7 := isn_e hL (i := 7) (by decide)
  have n8 := isn_e hL (i := 8) (by decide)
  have n9 := isn_e hL (i := 9) (by decide)
  have n10 := isn_e hL (i := 10) (by decide)
  have n11 := isn_e hL (i := 11) (by decide)
  have i16 : isB b a n κ 16 = isB b a n κ 0 := isB_cg (by decide)
  have i23 : isB b a n κ 23 = isB b a n κ 7 := isB_cg (by decide)
  have i25 : isB b a n κ 25 = isB b a n κ 8 := isB_cg (by decide)
  have i26 : isB b a n κ 26 = isB b a n κ 9 := isB_cg (by decide)
  have i29 : isB b a n κ 29 = isB b a n κ 10 := isB_cg (by decide)
  have i31 : isB b a n κ 31 = isB b a n κ 11 := isB_cg (by decide)
  have w16 := wd_e hLM (i := 16) (by decide)
  rw [i16] at w16
  have fl : ∀ nb, 1 ≤ nb → fX6_readLine mc = some (nI 0, flM mc nb a) → fX11_readLine mm = some (wrM mm nb a) → LO t N b a c0 d0 (fX6_readLine mc) (fX11_readLine mm) := fun nb hn e1 e2 => by
    rw [e1, e2]
    exact Or.inl ⟨nb, a, hn, flC_fl.cx fr1 fr2, _, rfl, wr_FL _ _ _, hG.wr _ _⟩
  cases b0 : isB b a n κ 0
  · -- no fan's line
    have eF : fX6_readLine mc = fX6_readLine_64 (nI (if isB b a n κ 7 || (isB b a n κ 8 || (isB b a n κ 9 || (isB b a n κ 10 || isB b a n κ 11))) then 1 else 0)) mc := by
      unfold fX6_readLine fX6_readLine_59
      rw [n0, b0, cl2_so, if_pos (by decide), n7, cl2_so]
      cases b7 : isB b a n κ 7
      · rw [if_pos (by decide), n8, cl2_so]
        cases b8 : isB b a n κ 8
        · rw [if_pos (by decide), n9, cl2_so]
          cases b9 : isB b a n κ 9
          · rw [if_pos (by decide), n10, cl2_so]
            cases b10 : isB b a n κ 10
            · rw [if_pos (by decide), n11, cl2_so]
              cases b11 : isB b a n κ 11
              · rw [if_pos (by decide)]
                rfl
              · rw [if_neg (by decide)]
                rfl
            · rw [if_neg (by decide)]
              rfl
          · rw [if_neg (by decide)]
            rfl
        · rw [if_neg (by decide)]
          rfl
      · rw [if_neg (by decide)]
        rfl
    have eG : fX11_readLine mm = fX11_readLine_48 (nI (if r 0 = 0 ∨ r 4 < r 0 then 1 else 0)) mm := by
      have g0 := hMR 0 (by omega)
      have g4 := hMR 4 (by omega)
      have hb : r 0 < 1000 ∧ r 4 < 1000 := by
        cases bg
        · rw [(hR.1 rfl).1]
          decide
        · exact ⟨(hR.2 rfl).1.2.1 0 (by omega), (hR.2 rfl).1.2.1 4 (by omega)⟩
      unfold fX11_readLine fX11_readLine_43
      rw [w16, b0, cl2_so, if_pos (by decide), g0, g4]
      by_cases q0 : r 0 = 0
      · rw [q0, if_pos (by decide), if_pos (Or.inl rfl)]
        rfl
      · rw [if_neg (show ¬ nI (r 0) = (0 : Int32) from fun q => q0 ((zs_eq (a := r 0) (b := 0) (by omega) (by omega)).mp q))]
        by_cases q4 : r 4 < r 0
        · rw [if_neg (show ¬ nI (r 0) ≤ nI (r 4) from fun q => by have := (zs_le (a := r 0) (b := r 4) (by omega) (by omega)).mp q; omega), if_pos (Or.inr q4)]
          rfl
        · rw [if_pos ((zs_le (a := r 0) (b := r 4) (by omega) (by omega)).mpr (by omega)), if_neg (by omega)]
          rfl
    have hbn : r 5 < 1000 ∧ r 6 < 1000 ∧ r 7 < 1000 ∧ r 9 < 1000 := by
      cases bg
      · rw [(hR.1 rfl).1]
        decide
      · exact ⟨(hR.2 rfl).1.2.1 5 (by omega), (hR.2 rfl).1.2.1 6 (by omega), (hR.2 rfl).1.2.1 7 (by omega), (hR.2 rfl).1.2.1 9 (by omega)⟩
    have g5 := hMR 5 (by omega)
    have g6 := hMR 6 (by omega)
    have g7 := hMR 7 (by omega)
    have g9 := hMR 9 (by omega)
    -- the reference goes on, name by name
    have s48 : ∀ x, isB b a n κ 7 = false → fX11_readLine_48 x mm = fX11_readLine_81 (nI (if r 5 < 6 then 1 else 0)) mm := fun x q => by
      unfold fX11_readLine_48
      rw [beg_f hLM (i := 23) (by decide) (i23.trans q), cl2_so, if_pos (by decide), g5]
      by_cases z : r 5 < 6
      · rw [if_neg (show ¬ (6 : Int32) ≤ nI (r 5) from fun q => by have := (zs_le (a := 6) (b := r 5) (by omega) (by omega)).mp q; omega), if_pos z]
        rfl
      · rw [if_pos (show (6 : Int32) ≤ nI (r 5) from (zs_le (a := 6) (b := r 5) (by omega) (by omega)).mpr (by omega)), if_neg z]
        rfl
    have s81 : ∀ x, isB b a n κ 8 = false → fX11_readLine_81 x mm = fX11_readLine_114 (nI (if r 6 < 4 then 1 else 0)) mm := fun x q => by
      unfold fX11_readLine_81
      rw [beg_f hLM (i := 25) (by decide) (i25.trans q), cl2_so, if_pos (by decide), g6]
      by_cases z : r 6 < 4
      · rw [if_neg (show ¬ (4 : Int32) ≤ nI (r 6) from fun q => by have := (zs_le (a := 4) (b := r 6) (by omega) (by omega)).mp q; omega), if_pos z]
        rfl
      · rw [if_pos (show (4 : Int32) ≤ nI (r 6) from (zs_le (a := 4) (b := r 6) (by omega) (by omega)).mpr (by omega)), if_neg z]
        rfl
    have s114 : ∀ x, isB b a n κ 9 = false → fX11_readLine_114 x mm = fX11_readLine_148 (nI (if r 7 < 6 then 1 else 0)) mm := fun x q => by
      unfold fX11_readLine_114
      rw [beg_f hLM (i := 26) (by decide) (i26.trans q), cl2_so, if_pos (by decide), g7]
      by_cases z : r 7 < 6
      · rw [if_neg (show ¬ (6 : Int32) ≤ nI (r 7) from fun q => by have := (zs_le (a := 6) (b := r 7) (by omega) (by omega)).mp q; omega), if_pos z]
        rfl
      · rw [if_pos (show (6 : Int32) ≤ nI (r 7) from (zs_le (a := 6) (b := r 7) (by omega) (by omega)).mpr (by omega)), if_neg z]
        rfl
    have s148 : ∀ x, isB b a n κ 10 = false → fX11_readLine_148 x mm = fX11_readLine_180 (nI (if r 9 = 0 then 1 else 0)) mm := fun x q => by
      unfold fX11_readLine_148
      rw [beg_f hLM (i := 29) (by decide) (i29.trans q), cl2_so, if_pos (by decide), g9]
      by_cases z : r 9 = 0
      · rw [if_pos (show nI (r 9) = (0 : Int32) from (zs_eq (a := r 9) (b := 0) (by omega) (by omega)).mpr z), if_pos z]
        rfl
      · rw [if_neg (show ¬ nI (r 9) = (0 : Int32) from fun q => z ((zs_eq (a := r 9) (b := 0) (by omega) (by omega)).mp q)), if_neg z]
        rfl
    have s180 : ∀ x, isB b a n κ 11 = false → fX11_readLine_180 x mm = some (wrM mm 1 a) := fun x q => by
      unfold fX11_readLine_180
      rw [beg_f hLM (i := 31) (by decide) (i31.trans q), cl2_so, if_pos (by decide), hLM.2.1.1]
      refine (cl1_e (wrong_e hLM.2.2.2 1 a)).trans ?_
      rfl
    cases hkn : isB b a n κ 7 || (isB b a n κ 8 || (isB b a n κ 9 || (isB b a n κ 10 || isB b a n κ 11)))
    · rw [hkn] at eF
      rw [Bool.or_eq_false_iff, Bool.or_eq_false_iff, Bool.or_eq_false_iff, Bool.or_eq_false_iff] at hkn
      obtain ⟨b7, b8, b9, b10, b11⟩ := hkn
      refine fl 1 (by omega) ?_ ?_
      · rw [eF]
        unfold fX6_readLine_64
        rw [if_pos (by decide)]
        simp (disch := omega) only [fail_e hL.2.1.1, cl2_so, cl1_so, ck_tr, zl_0, zl_1, zl_2, zl_3, zl_4, zl_5, zl_6, zl_7, zl_8, zl_9, zl_10, zl_11, zl_12, zl_15, zl_16, zl_20, zl_24, zl_25, zl_30, zl_31, zl_32, zl_33, zl_44, zl_48, zl_50, zl_57, zl_59, zl_60, zl_61, zl_62, zl_63, zl_64, zl_68, zl_97, zl_99, zl_100, zl_104, zl_108, zl_114, zl_120, zl_122, zl_126, zl_132, zl_180, zl_181, zl_186, zl_255, zl_900, zl_930, zl_1000, zl_1000000, nI_add, pk_mul, zs_sub, zs_lt, zs_le, zs_eq, zs_inb, zs_cl, zm_eq, zm_eq2, zm_lt, zm_le, mz_lt, mz_le, mm_eq, zs_bit, zs_or1, zs_div, zs_rem, ck_pos, if_pos, if_neg, true_or, or_true, true_and, and_true, false_or, or_false, false_and, and_false, not_true, not_false_iff, if_true, if_false, eq_self, Bool.false_eq_true, cl2_id, Bool.not_true, Bool.not_false]
      · rw [eG, s48 _ b7, s81 _ b8, s114 _ b9, s148 _ b10, s180 _ b11]
    · rw [hkn] at eF
      cases bg
      · -- a fan is lacking
        obtain ⟨rfl, rfl⟩ := hR.1 rfl
        have h3' : mc.1 1 3 = nI 0 := h3
        have m0 := hMR 0 (by omega)
        refine fl 6 (by omega) ?_ ?_
        · rw [eF]
          unfold fX6_readLine_64
          rw [if_neg (by decide), h3', if_pos (by decide)]
          simp (disch := omega) only [fail_e hL.2.1.1, cl2_so, cl1_so, ck_tr, zl_0, zl_1, zl_2, zl_3, zl_4, zl_5, zl_6, zl_7, zl_8, zl_9, zl_10, zl_11, zl_12, zl_15, zl_16, zl_20, zl_24, zl_25, zl_30, zl_31, zl_32, zl_33, zl_44, zl_48, zl_50, zl_57, zl_59, zl_60, zl_61, zl_62, zl_63, zl_64, zl_68, zl_97, zl_99, zl_100, zl_104, zl_108, zl_114, zl_120, zl_122, zl_126, zl_132, zl_180, zl_181, zl_186, zl_255, zl_900, zl_930, zl_1000, zl_1000000, nI_add, pk_mul, zs_sub, zs_lt, zs_le, zs_eq, zs_inb, zs_cl, zm_eq, zm_eq2, zm_lt, zm_le, mz_lt, mz_le, mm_eq, zs_bit, zs_or1, zs_div, zs_rem, ck_pos, if_pos, if_neg, true_or, or_true, true_and, and_true, false_or, or_false, false_and, and_false, not_true, not_false_iff, if_true, if_false, eq_self, Bool.false_eq_true, cl2_id, Bool.not_true, Bool.not_false]
        · rw [eG, if_pos (Or.inl rfl)]
          cases b7 : isB b a n κ 7
          · rw [s48 _ b7, if_pos (by decide)]
            cases b8 : isB b a n κ 8
            · rw [s81 _ b8, if_pos (by decide)]
              cases b9 : isB b a n κ 9
              · rw [s114 _ b9, if_pos (by decide)]
                cases b10 : isB b a n κ 10
                · rw [s148 _ b10, if_pos (by decide)]
                  have b11 : isB b a n κ 11 = true := by
                    rw [b7, b8, b9, b10] at hkn
                    simpa using hkn
                  unfold fX11_readLine_180
                  rw [beg_l hLM (i := 31) (by decide) (i31.trans b11) m0, cl2_so, if_neg (by decide), beat_d (wr_13 _ _ _)]
                  rfl
                · unfold fX11_readLine_148
                  rw [beg_l hLM (i := 29) (by decide) (i29.trans b10) m0, cl2_so, if_neg (by decide), seen_d (wr_13 _ _ _)]
                  rfl
              · unfold fX11_readLine_114
                rw [beg_l hLM (i := 26) (by decide) (i26.trans b9) m0, cl2_so, if_neg (by decide), wish_d (wr_13 _ _ _)]
                rfl
            · unfold fX11_readLine_81
              rw [beg_l hLM (i := 25) (by decide) (i25.trans b8) m0, cl2_so, if_neg (by decide), word_d (wr_13 _ _ _)]
              rfl
          · unfold fX11_readLine_48
            rw [beg_l hLM (i := 23) (by decide) (i23.trans b7) m0, cl2_so, if_neg (by decide), rib_d (wr_13 _ _ _)]
            rfl
      · obtain ⟨hK, -⟩ := hR.2 rfl
        have hrr : 2 ≤ r 0 ∧ r 0 ≤ 10 := ⟨hK.1.1, hK.1.2.1⟩
        have m0 := hMR 0 (by omega)
        have h3' : mc.1 1 3 = nI 1 := h3
        have eF2 : fX6_readLine mc = cl2 (fX6_isName 7 mc) fun r40 m41 => if r40 = (0 : Int32) then cl2 (fX6_isName 8 m41) fun r45 m46 => if r45 = (0 : Int32) then cl2 (fX6_isName 9 m46) fun r50 m51 => if r50 = (0 : Int32) then cl2 (fX6_isName 10 m51) fun r55 m56 => if r55 = (0 : Int32) then cl2 (fX6_readBeats m56) fun r60 m61 => fX6_readLine_151 r60 m61 else cl2 (fX6_readSeen m56) fun r64 m65 => fX6_readLine_151 r64 m65 else cl2 (fX6_readWish m51) fun r68 m69 => ck (r68 = (0 : Int32) ∨ r68 = (1 : Int32)) (some (r68, m69)) else cl2 (fX6_readWord m46) fun r73 m74 => ck (r73 = (0 : Int32) ∨ r73 = (1 : Int32)) (some (r73, m74)) else cl2 (fX6_readRib m41) fun r78 m79 => ck (r78 = (0 : Int32) ∨ r78 = (1 : Int32)) (some (r78, m79)) := by
          rw [eF]
          unfold fX6_readLine_64
          rw [if_neg (by decide), h3', if_neg (by decide)]
        have lo : ∀ (F : Option (Int32 × Me)) (G : Option Me) (X : Int32 → Me → Option (Int32 × Me)), (∀ x m, x = nI 0 ∨ x = nI 1 → X x m = some (x, m)) → LO t N b a c0 d0 F G → LO t N b a c0 d0 (cl2 F X) G := fun F G X hX h => by
          rcases h with ⟨nb, pl, q1, ⟨m', q2, q3⟩, q4⟩ | ⟨a', n', κ', r', s', mc', mm', q1, q2⟩
          · exact Or.inl ⟨nb, pl, q1, ⟨m', (cl2_e q2).trans (hX _ _ (Or.inl rfl)), q3⟩, q4⟩
          · exact Or.inr ⟨a', n', κ', r', s', mc', mm', (cl2_e q1).trans (hX _ _ (Or.inr rfl)), q2⟩
        have ckx : ∀ (x : Int32) (m : Me), x = nI 0 ∨ x = nI 1 → ck (x = (0 : Int32) ∨ x = (1 : Int32)) (some (x, m)) = some (x, m) := fun x m h => ck_pos h
        have hif : (if r 0 = 0 ∨ r 4 < r 0 then 1 else 0) = (if r 4 < r 0 then 1 else 0) := by
          by_cases q : r 4 < r 0
          · rw [if_pos (Or.inr q), if_pos q]
          · rw [if_neg (by omega), if_neg q]
        rw [eF2, eG, n7, cl2_so]
        cases b7 : isB b a n κ 7
        · rw [if_pos (by decide), n8, cl2_so, s48 _ b7]
          cases b8 : isB b a n κ 8
          · rw [if_pos (by decide), n9, cl2_so, s81 _ b8]
            cases b9 : isB b a n κ 9
            · rw [if_pos (by decide), n10, cl2_so, s114 _ b9]
              cases b10 : isB b a n κ 10
              · rw [if_pos (by decide), s148 _ b10]
                have b11 : isB b a n κ 11 = true := by
                  rw [b7, b8, b9, b10] at hkn
                  simpa using hkn
                have e := beg_g hLM (i := 31) (by decide) (i31.trans b11) m0 hrr (p := r 9 = 0) 3 (fun m50 => cl1 (fX11_wrong (1 : Int32) (m50.1 138 4) m50) fun m54 => fX11_readLine_203 m54) fX11_beatLine
                have e' : fX11_readLine_180 (nI (if r 9 = 0 then 1 else 0)) mm = _ := e
                rw [e']
                exact lo _ _ _ (fun x m h => ckx x m h) (line_beat ht hr0 hC hM hR (i31.trans b11))
              · rw [if_neg (by decide)]
                have e := beg_g hLM (i := 29) (by decide) (i29.trans b10) m0 hrr (p := r 7 < 6) 5 (fun m41 => if (m41.1 142 9) = (0 : Int32) then fX11_readLine_180 (1 : Int32) m41 else fX11_readLine_180 (0 : Int32) m41) fX11_seenLine
                have e' : fX11_readLine_148 (nI (if r 7 < 6 then 1 else 0)) mm = _ := e
                rw [e']
                exact lo _ _ _ (fun x m h => ckx x m h) (line_seen ht hr0 hC hM hR (i29.trans b10))
            · rw [if_neg (by decide)]
              have e := beg_g hLM (i := 26) (by decide) (i26.trans b9) m0 hrr (p := r 6 < 4) 5 (fun m32 => if (6 : Int32) ≤ (m32.1 142 7) then fX11_readLine_148 (0 : Int32) m32 else fX11_readLine_148 (1 : Int32) m32) fX11_wishLine
              have e' : fX11_readLine_114 (nI (if r 6 < 4 then 1 else 0)) mm = _ := e
              rw [e']
              exact lo _ _ _ (fun x m h => ckx x m h) (line_wish ht hr0 hC hM hR (i26.trans b9))
          · rw [if_neg (by decide)]
            have e := beg_g hLM (i := 25) (by decide) (i25.trans b8) m0 hrr (p := r 5 < 6) 5 (fun m23 => if (4 : Int32) ≤ (m23.1 142 6) then fX11_readLine_114 (0 : Int32) m23 else fX11_readLine_114 (1 : Int32) m23) fX11_wordLine
            have e' : fX11_readLine_81 (nI (if r 5 < 6 then 1 else 0)) mm = _ := e
            rw [e']
            exact lo _ _ _ (fun x m h => ckx x m h) (line_word ht hr0 hC hM hR (i25.trans b8))
        · rw [if_neg (by decide), hif]
          have e := beg_g hLM (i := 23) (by decide) (i23.trans b7) m0 hrr (p := r 4 < r 0) 5 (fun m14 => if (6 : Int32) ≤ (m14.1 142 5) then fX11_readLine_81 (0 : Int32) m14 else fX11_readLine_81 (1 : Int32) m14) fX11_ribLine
          have e' : fX11_readLine_48 (nI (if r 4 < r 0 then 1 else 0)) mm = _ := e
          rw [e']
          exact lo _ _ _ (fun x m h => ckx x m h) (line_rib ht hr0 hC hM hR (i23.trans b7))
  · have hk1 := (isB_1 b0).1
    have eF : fX6_readLine mc = cl2 (fX6_readFanLine mc) fun r33 m34 => ck (r33 = (0 : Int32) ∨ r33 = (1 : Int32)) (some (r33, m34)) := by
      unfold fX6_readLine
      rw [n0, b0, cl2_so, if_neg (by decide)]
    have eG : fX11_readLine mm = fX11_fanLine mm := by
      unfold fX11_readLine
      rw [w16, b0, cl2_so, if_neg (by decide)]
      exact cl1_id
    cases bg
    · obtain ⟨rfl, rfl⟩ := hR.1 rfl
      rw [eF, eG]
      rcases line_fan ht hr0 hC hM (by omega) with ⟨nb, pl, q1, ⟨m', q2, q3⟩, q4⟩ | ⟨a', n', κ', r', s', mc', mm', q1, q2⟩
      · exact Or.inl ⟨nb, pl, q1, ⟨m', (cl2_e q2).trans (ck_pos (Or.inl rfl)), q3⟩, q4⟩
      · exact Or.inr ⟨a', n', κ', r', s', mc', mm', (cl2_e q1).trans (ck_pos (Or.inr rfl)), q2⟩
    · obtain ⟨hK, -⟩ := hR.2 rfl
      have h3' : mc.1 1 3 = nI 1 := h3
      have f0 := hK.1.1
      have f1 := hK.1.2.1
      refine fl 3 (by omega) ?_ ?_
      · rw [eF]
        unfold fX6_readFanLine
        rw [h3', if_neg (by decide)]
        simp (disch := omega) only [fail_e hL.2.1.1, cl2_so, cl1_so, ck_tr, zl_0, zl_1, zl_2, zl_3, zl_4, zl_5, zl_6, zl_7, zl_8, zl_9, zl_10, zl_11, zl_12, zl_15, zl_16, zl_20, zl_24, zl_25, zl_30, zl_31, zl_32, zl_33, zl_44, zl_48, zl_50, zl_57, zl_59, zl_60, zl_61, zl_62, zl_63, zl_64, zl_68, zl_97, zl_99, zl_100, zl_104, zl_108, zl_114, zl_120, zl_122, zl_126, zl_132, zl_180, zl_181, zl_186, zl_255, zl_900, zl_930, zl_1000, zl_1000000, nI_add, pk_mul, zs_sub, zs_lt, zs_le, zs_eq, zs_inb, zs_cl, zm_eq, zm_eq2, zm_lt, zm_le, mz_lt, mz_le, mm_eq, zs_bit, zs_or1, zs_div, zs_rem, ck_pos, if_pos, if_neg, true_or, or_true, true_and, and_true, false_or, or_false, false_and, and_false, not_true, not_false_iff, if_true, if_false, eq_self, Bool.false_eq_true, cl2_id, Bool.not_true, Bool.not_false]
      · rw [eG]
        unfold fX11_fanLine
        rw [hMR 0 (by omega), if_neg (show ¬ nI (r 0) ≤ (0 : Int32) from fun q => by have := (zs_le (a := r 0) (b := 0) (by omega) (by omega)).mp q; omega), hLM.2.1.1]
        refine (cl1_e (wrong_e hLM.2.2.2 3 a)).trans ?_
        exact fanl_d (wr_13 _ _ _)
theorem f185_d {nb pl : Nat} (h : FL m nb pl) (f : Nat) : fX11_fan_109 (f + 1) m = fX11_fan_185 m := by
  rw [fX11_fan_109, h.1, if_neg (by decide)]
  unfold fX11_fan_136
  rw [h.1, if_neg (by decide)]
  unfold fX11_fan_159
  rw [h.1, if_neg (by decide)]
/-- all lines, on both sides -/
theorem lines (ht : t = 3 ∨ t = 42) (hr0 : rr c0 1 2 = t) : ∀ j fu fu' x2 (bg : Bool) (r s : Nat → Nat) (mc mm : Me) (a n κ : Nat), N - a ≤ j → j < fu → j < fu' → x2 ≤ a → RC c0 mc t N b a n κ bg r s → RM d0 mm N b a n κ r s → RP bg r s →
    (∃ nb pl, 1 ≤ nb ∧ CX t c0 (fX6_readFan_51 fu (nI x2) mc) nb pl ∧ ∃ m', (cl1 (fX11_readLine mm) fun m21 => fX11_fan_109 fu' m21) = fX11_fan_185 m' ∧ FL m' nb pl ∧ Gf d0 m') ∨
    (∃ a' n' κ' r' s' mc' mm', fX6_readFan_51 fu (nI x2) mc = some (nI 1, mc') ∧ (cl1 (fX11_readLine mm) fun m21 => fX11_fan_109 fu' m21) = fX11_fan_185 mm' ∧ RC c0 mc' t N b a' n' κ' true r' s' ∧ RM d0 mm' N b a' n' κ' r' s' ∧ RP true r' s') := by
  intro j
  induction j with
  | zero =>
    intro fu fu' x2 bg r s mc mm a n κ hj hfu hfu' hx hC hM hR
    obtain ⟨fu, rfl⟩ : ∃ n', fu = n' + 1 := ⟨fu - 1, by omega⟩
    obtain ⟨fu', rfl⟩ : ∃ n', fu' = n' + 1 := ⟨fu' - 1, by omega⟩
    have hN := hC.2.1.bd
    rcases line_any ht hr0 hC hM hR with ⟨nb, pl, q0, ⟨m1, q1, q2⟩, m2, q3, q4, q5⟩ | ⟨a', n', κ', r', s', mc', mm', q1, q2, q3, q4, q5, q6⟩
    · refine Or.inl ⟨nb, pl, q0, ⟨m1, ?_, q2⟩, m2, ?_, q4, q5⟩
      · rw [fX6_readFan_51, if_neg (show ¬ (900 : Int32) < nI x2 from fun q => by have := (zs_lt (a := 900) (b := x2) (by omega) (by omega)).mp q; omega), q1, cl2_so, if_pos (by decide)]
        rfl
      · rw [q3, cl1_so]
        exact f185_d q4 _
    · have := q3.2.1.bd
      omega
  | succ j ih =>
    intro fu fu' x2 bg r s mc mm a n κ hj hfu hfu' hx hC hM hR
    obtain ⟨fu, rfl⟩ : ∃ n', fu = n' + 1 := ⟨fu - 1, by omega⟩
    obtain ⟨fu', rfl⟩ : ∃ n', fu' = n' + 1 := ⟨fu' - 1, by omega⟩
    have hN := hC.2.1.bd
    have h900 : ¬ (900 : Int32) < nI x2 := fun q => by
      have := (zs_lt (a := 900) (b := x2) (by omega) (by omega)).mp q
      omega
    rcases line_any ht hr0 hC hM hR with ⟨nb, pl, q0, ⟨m1, q1, q2⟩, m2, q3, q4, q5⟩ | ⟨a', n', κ', r', s', mc', mm', q1, q2, q3, q4, q5, q6⟩
    · refine Or.inl ⟨nb, pl, q0, ⟨m1, ?_, q2⟩, m2, ?_, q4, q5⟩
      · rw [fX6_readFan_51, if_neg h900, q1, cl2_so, if_pos (by decide)]
        rfl
      · rw [q3, cl1_so]
        exact f185_d q4 _
    · have hk5 := q3.2.1.2.2.2.1
      have e24 := q3.2.1.2.1.2.2
      have hLM := q4.2.1
      have e6 := hLM.2.1.2.2.1
      have hkm := kM_le κ'
      have hK := (q5.2 rfl).1
      by_cases k0 : κ' = 0
      · refine Or.inr ⟨a', n', κ', r', s', mc', mm', ?_, ?_, q3, q4, q5⟩
        · rw [fX6_readFan_51, if_neg h900, q1, cl2_so, if_neg (by decide), e24, k0, if_pos (by decide)]
          rfl
        · have km : kM κ' = 0 := kM_0.mpr k0
          have f0 := hK.1.1
          have f1 := hK.1.2.1
          rw [q2, cl1_so, fX11_fan_109, hLM.2.2.2, if_pos (by decide), e6, km, if_neg (by decide)]
          unfold fX11_fan_136
          rw [hLM.2.2.2, if_pos (by decide), e6, km, if_pos (by decide)]
          unfold fX11_fan_159
          rw [hLM.2.2.2, if_pos (by decide), q4.2.2.2.1 0 (by omega), if_neg (show ¬ nI (r' 0) = (0 : Int32) from fun q => by have := (zs_eq (a := r' 0) (b := 0) (by omega) (by omega)).mp q; omega)]
      · by_cases k3 : κ' = 3
        · obtain ⟨a2, n2, κ2, hT⟩ := Tk_ex N b q3.2.1.bd.1
          obtain ⟨⟨fr1, fr2⟩, hL, h3, h8, hCT, h4, hP⟩ := q3
          obtain ⟨hG, -, h9, hMR, hMS⟩ := q4
          obtain ⟨c2, s1, s2, s3, -⟩ := hL.st hT
          obtain ⟨d2, u1, u2, u3⟩ := hLM.nx hT
          have hn1 := hL.2.2.2.2.2.1 k0
          have hC2 : RC c0 c2 t N b a2 n2 κ2 true r' s' := ⟨⟨fun x j z1 z2 => (s3.1 x j (by omega)).trans (fr1 x j z1 z2), s3.2.trans fr2⟩, s2, (s3.1 1 3 (by omega)).trans h3, (s3.1 1 8 (by omega)).trans h8, hCT.cg hK (fun x j z1 z2 => s3.1 x j (by omega)), (s3.1 t 4 (by omega)).trans h4, hP.cg (fun x j z => s3.1 x j (by omega))⟩
          have hM2 : RM d0 d2 N b a2 n2 κ2 r' s' := ⟨hG.tr u3.gf, u2, (u3.1 138 9 (by omega) (by omega)).trans h9, fun k hk => (u3.1 142 k (by omega) (by omega)).trans (hMR k hk), fun k hk => (u3.1 144 k (by omega) (by omega)).trans (hMS k hk)⟩
          have hlt := hT.1
          have eF : fX6_readFan_51 (fu + 1) (nI x2) mc = fX6_readFan_51 fu (nI (x2 + 1)) c2 := by
            rw [fX6_readFan_51, if_neg h900, q1, cl2_so, if_neg (by decide), e24, k3, if_neg (by decide), if_pos (by decide), s1, cl1_so, zl_1, nI_add]
          have km : kM κ' = 59 := kM_59.mpr k3
          have eG : (cl1 (fX11_readLine mm) fun m21 => fX11_fan_109 (fu' + 1) m21) = cl1 (fX11_readLine d2) fun m21 => fX11_fan_109 fu' m21 := by
            rw [q2, cl1_so, fX11_fan_109, hLM.2.2.2, if_pos (by decide), e6, km, if_pos (by decide), u1, cl1_so]
          rw [eF, eG]
          exact ih fu fu' (x2 + 1) true r' s' c2 d2 a2 n2 κ2 (by omega) (by omega) (by omega) (by omega) hC2 hM2 q5
        · have n0' : ¬ nI κ' = (0 : Int32) := fun q => k0 ((zs_eq (a := κ') (b := 0) (by omega) (by omega)).mp q)
          have n3' : ¬ nI κ' = (3 : Int32) := fun q => k3 ((zs_eq (a := κ') (b := 3) (by omega) (by omega)).mp q)
          have m0' : ¬ nI (kM κ') = (0 : Int32) := fun q => k0 (kM_0.mp ((zs_eq (a := kM κ') (b := 0) (by omega) (by omega)).mp q))
          have m59 : ¬ nI (kM κ') = (59 : Int32) := fun q => k3 (kM_59.mp ((zs_eq (a := kM κ') (b := 59) (by omega) (by omega)).mp q))
          refine Or.inl ⟨1, a', by omega, ((flC_fl (m := mc') (nb := 1) (a := a')).cx (t := t) (m0 := c0) q3.1.1 q3.1.2).eq (fun m' e => ?_), wrM mm' 1 a', ?_, wr_FL _ _ _, q4.1.wr _ _⟩
          · rw [← e, fX6_readFan_51, if_neg h900, q1, cl2_so, if_neg (by decide), e24, if_neg n0', if_neg n3']
            simp (disch := omega) only [fail_e q3.2.1.2.1.1, cl2_so, cl1_so, ck_tr, zl_0, zl_1, zl_2, zl_3, zl_4, zl_5, zl_6, zl_7, zl_8, zl_9, zl_10, zl_11, zl_12, zl_15, zl_16, zl_20, zl_24, zl_25, zl_30, zl_31, zl_32, zl_33, zl_44, zl_48, zl_50, zl_57, zl_59, zl_60, zl_61, zl_62, zl_63, zl_64, zl_68, zl_97, zl_99, zl_100, zl_104, zl_108, zl_114, zl_120, zl_122, zl_126, zl_132, zl_180, zl_181, zl_186, zl_255, zl_900, zl_930, zl_1000, zl_1000000, nI_add, pk_mul, zs_sub, zs_lt, zs_le, zs_eq, zs_inb, zs_cl, zm_eq, zm_eq2, zm_lt, zm_le, mz_lt, mz_le, mm_eq, zs_bit, zs_or1, zs_div, zs_rem, ck_pos, if_pos, if_neg, true_or, or_true, true_and, and_true, false_or, or_false, false_and, and_false, not_true, not_false_iff, if_true, if_false, eq_self, Bool.false_eq_true, cl2_id, Bool.not_true, Bool.not_false]
          · rw [q2, cl1_so, fX11_fan_109, hLM.2.2.2, if_pos (by decide), e6, if_neg m59]
            unfold fX11_fan_136
            rw [hLM.2.2.2, if_pos (by decide), e6, if_neg m0', hLM.2.1.1]
            refine (cl1_e (wrong_e hLM.2.2.2 1 a')).trans ?_
            unfold fX11_fan_159
            rw [wr_13, if_neg (by decide)]
end LINES
