/-! words -/
theorem eqB_iff {u w : List Nat} : eqB u w = true ↔ u = w := by
  unfold eqB
  rw [Bool.and_eq_true, decide_eq_true_eq, z_al_iff]
  constructor
  · rintro ⟨h1, h2⟩
    apply List.ext_getElem h1
    intro k hk hk'
    have := h2 k (by omega) (by omega)
    rw [decide_eq_true_eq, List.getD_eq_getElem?_getD, List.getD_eq_getElem?_getD, List.getElem?_eq_getElem hk, List.getElem?_eq_getElem hk'] at this
    exact this
  · rintro rfl
    exact ⟨rfl, fun i _ _ => decide_eq_true rfl⟩
section WORD
variable {N : Nat} {b : Nat → Nat} {mc mm c0 d0 m : Me} {a n κ t a' n' κ' : Nat} {r s : Nat → Nat}
def smB (r b : Nat → Nat) (a n w : Nat) : Bool := eqB (wL b a n) (z_word r w)
theorem wL_ok (hO : TO N b a n κ) (hk : κ = 1) : SYok (wL b a n) := by
  obtain ⟨o1, o2, o3, o4, o5, o6⟩ := hO
  unfold SYok
  rw [wL_len]
  refine ⟨o4 (by omega), (o5 hk).1, fun k hk' => ?_⟩
  have := (o5 hk).2 k hk'
  rw [wL_at hk']
  omega
theorem smB_e (hW : kW r) {w : Nat} (hw : w < r 5) : smB r b a n w = (decide (r (10 + w) = n) && z_al (fun k => decide (r (16 + 8 * w + k) = b (a + k) - 97)) 0 n) := by
  unfold smB eqB
  rw [wL_len, z_word_len]
  by_cases h : r (10 + w) = n
  · rw [decide_eq_true h, decide_eq_true h.symm, Bool.true_and, Bool.true_and]
    apply z_al_congr
    intro i h1 h2
    rw [wL_at (by omega)]
    unfold z_word
    rw [z_w_at (by omega)]
    exact decide_eq_decide.mpr ⟨fun q => q.symm, fun q => q.symm⟩
  · rw [decide_eq_false h, decide_eq_false (fun q => h q.symm), Bool.false_and, Bool.false_and]
theorem rw56 (ht : t = 3 ∨ t = 42) (hK : OKr r) (hL : LC m N b a n κ) (hk : κ = 1) (hrr : rr m 1 2 = t) (h7 : m.1 t 7 = nI (r 5)) (hS : SY m (t + 7 + 2 * r 5) (wL b a n)) (hW : ∀ w, w < r 5 → SY m (t + 7 + 2 * w) (z_word r w)) : ∀ j w f, w + j = r 5 → j < f → fX6_readWord_56 f (t + 7 + 2 * r 5) (nI w) m = if z_al (fun w => !smB r b a n w) w j then (cl1 (fX6_step m) fun m24 => some ((1 : Int32), (setI m24 (rr m24 1 2) 7 ((m24.1 (rr m24 1 2) 7) + (1 : Int32))))) else some (nI 0, flM m 3 a) := by
  have h5 := hK.2.2.2.1
  have hwk := wL_ok hL.2.2 hk
  intro j
  induction j with
  | zero =>
    intro w f hw hf
    obtain ⟨f, rfl⟩ : ∃ n', f = n' + 1 := ⟨f - 1, by omega⟩
    rw [fX6_readWord_56, z_al, hrr, h7, if_pos ((zs_le (by omega) (by omega)).mpr (by omega)), if_pos rfl]
  | succ j ih =>
    intro w f hw hf
    obtain ⟨f, rfl⟩ : ∃ n', f = n' + 1 := ⟨f - 1, by omega⟩
    have ih' := ih (w + 1) f (by omega) (by omega)
    have ho := word_ok hK (w := w) (by omega)
    have e := fX8_sameLetters_e hS (hW w (by omega)) ⟨hwk.2.1, hwk.2.2⟩ ⟨ho.2.1, ho.2.2⟩
    rw [fX6_readWord_56, z_al, hrr, h7, if_neg (fun q => by rw [zs_le (by omega) (by omega)] at q; omega), ck_pos ((zs_inb (by omega)).mpr (by omega)), zs_cl (by omega)]
    refine (cl2_e e).trans ?_
    show (if nI (if smB r b a n w = true then 1 else 0) = (0 : Int32) then _ else _) = _
    cases hb : smB r b a n w
    · rw [if_pos (by decide), zl_1, nI_add]
      simp only [Bool.not_false, Bool.true_and]
      exact ih'
    · rw [if_neg (by decide)]
      simp only [Bool.not_true, Bool.false_and, Bool.false_eq_true, if_false]
      simp (disch := omega) only [fail_e hL.2.1.1, cl2_so, cl1_so, ck_tr, zl_0, zl_1, zl_2, zl_3, zl_4, zl_5, zl_6, zl_7, zl_8, zl_9, zl_10, zl_11, zl_12, zl_15, zl_16, zl_20, zl_24, zl_25, zl_30, zl_31, zl_32, zl_33, zl_44, zl_48, zl_50, zl_57, zl_59, zl_60, zl_61, zl_62, zl_63, zl_64, zl_68, zl_97, zl_99, zl_100, zl_104, zl_108, zl_114, zl_120, zl_122, zl_126, zl_132, zl_180, zl_181, zl_186, zl_255, zl_900, zl_930, zl_1000, zl_1000000, nI_add, pk_mul, zs_sub, zs_lt, zs_le, zs_eq, zs_inb, zs_cl, zm_eq, zm_eq2, zm_lt, zm_le, mz_lt, mz_le, mm_eq, zs_bit, zs_or1, zs_div, zs_rem, ck_pos, if_pos, if_neg, true_or, or_true, true_and, and_true, false_or, or_false, false_and, and_false, not_true, not_false_iff, if_true, if_false, eq_self, Bool.false_eq_true, cl2_id, Bool.not_true, Bool.not_false]
theorem wl21_d (h : m.1 138 13 = nI 1) {f : Nat} (x1 x2 : Int32) : fX11_wordLine_21 (f + 1) x1 x2 m = some m := by
  have e : fX11_wordLine_130 x1 m = some m := by
    unfold fX11_wordLine_130
    simp (disch := omega) only [h, cl2_so, cl1_so, ck_tr, zl_0, zl_1, zl_2, zl_3, zl_4, zl_5, zl_6, zl_7, zl_8, zl_9, zl_10, zl_11, zl_12, zl_15, zl_16, zl_20, zl_24, zl_25, zl_30, zl_31, zl_32, zl_33, zl_44, zl_48, zl_50, zl_57, zl_59, zl_60, zl_61, zl_62, zl_63, zl_64, zl_68, zl_97, zl_99, zl_100, zl_104, zl_108, zl_114, zl_120, zl_122, zl_126, zl_132, zl_180, zl_181, zl_186, zl_255, zl_900, zl_930, zl_1000, zl_1000000, nI_add, pk_mul, zs_sub, zs_lt, zs_le, zs_eq, zs_inb, zs_cl, zm_eq, zm_eq2, zm_lt, zm_le, mz_lt, mz_le, mm_eq, zs_bit, zs_or1, zs_div, zs_rem, ck_pos, if_pos, if_neg, true_or, or_true, true_and, and_true, false_or, or_false, false_and, and_false, not_true, not_false_iff, if_true, if_false, eq_self, Bool.false_eq_true, cl2_id, Bool.not_true, Bool.not_false]
  rw [fX11_wordLine_21, e, h, if_neg (show ¬ nI 1 = (0 : Int32) by decide)]
  split <;> rfl
theorem wl58 {k21 : Int32 → Int32 → Me → Option Me} (hL : LM m N b a n κ) (hk : κ = 1) (hMR : MR m 142 r) {w : Nat} (hw : w < 6) (hlt : ∀ k, k < 186 → r k < 1000) {x1 : Int32} : ∀ j q f, q + j = n → j < f → fX11_wordLine_58 f k21 x1 (nI w) (nI 1) (nI q) m = fX11_wordLine_111 k21 x1 (nI w) (nI (if z_al (fun k => decide (r (16 + 8 * w + k) = b (a + k) - 97)) q j then 1 else 0)) m := by
  obtain ⟨hX, ⟨t4, t5, t6, t8, t7⟩, ⟨o1, o2, o3, o4, o5, o6⟩, h13⟩ := id hL
  obtain ⟨h8, hl⟩ := t8 hk
  have hn8 := (o5 hk).1
  intro j
  induction j with
  | zero =>
    intro q f hq hf
    obtain ⟨f, rfl⟩ : ∃ n', f = n' + 1 := ⟨f - 1, by omega⟩
    rw [fX11_wordLine_58, z_al, h8, if_pos ((zs_le (by omega) (by omega)).mpr (by omega)), if_pos rfl]
  | succ j ih =>
    intro q f hq hf
    obtain ⟨f, rfl⟩ : ∃ n', f = n' + 1 := ⟨f - 1, by omega⟩
    have ih' := ih (q + 1) f (by omega) (by omega)
    obtain ⟨d1, d2⟩ := (o5 hk).2 q (by omega)
    have e1 := hMR (16 + 8 * w + q) (by omega)
    have e2 := hl q (by omega)
    have e3 := hlt (16 + 8 * w + q) (by omega)
    rw [fX11_wordLine_58, z_al]
    unfold fX11_wordLine_104
    by_cases hc : r (16 + 8 * w + q) = b (a + q) - 97
    · rw [decide_eq_true hc, Bool.true_and]
      simp (disch := omega) only [h8, e1, e2, hc, cl2_so, cl1_so, ck_tr, zl_0, zl_1, zl_2, zl_3, zl_4, zl_5, zl_6, zl_7, zl_8, zl_9, zl_10, zl_11, zl_12, zl_15, zl_16, zl_20, zl_24, zl_25, zl_30, zl_31, zl_32, zl_33, zl_44, zl_48, zl_50, zl_57, zl_59, zl_60, zl_61, zl_62, zl_63, zl_64, zl_68, zl_97, zl_99, zl_100, zl_104, zl_108, zl_114, zl_120, zl_122, zl_126, zl_132, zl_180, zl_181, zl_186, zl_255, zl_900, zl_930, zl_1000, zl_1000000, nI_add, pk_mul, zs_sub, zs_lt, zs_le, zs_eq, zs_inb, zs_cl, zm_eq, zm_eq2, zm_lt, zm_le, mz_lt, mz_le, mm_eq, zs_bit, zs_or1, zs_div, zs_rem, ck_pos, if_pos, if_neg, true_or, or_true, true_and, and_true, false_or, or_false, false_and, and_false, not_true, not_false_iff, if_true, if_false, eq_self, Bool.false_eq_true, cl2_id, Bool.not_true, Bool.not_false]
      exact ih'
    · rw [decide_eq_false hc, Bool.false_and]
      simp (disch := omega) only [h8, e1, e2, hc, cl2_so, cl1_so, ck_tr, zl_0, zl_1, zl_2, zl_3, zl_4, zl_5, zl_6, zl_7, zl_8, zl_9, zl_10, zl_11, zl_12, zl_15, zl_16, zl_20, zl_24, zl_25, zl_30, zl_31, zl_32, zl_33, zl_44, zl_48, zl_50, zl_57, zl_59, zl_60, zl_61, zl_62, zl_63, zl_64, zl_68, zl_97, zl_99, zl_100, zl_104, zl_108, zl_114, zl_120, zl_122, zl_126, zl_132, zl_180, zl_181, zl_186, zl_255, zl_900, zl_930, zl_1000, zl_1000000, nI_add, pk_mul, zs_sub, zs_lt, zs_le, zs_eq, zs_inb, zs_cl, zm_eq, zm_eq2, zm_lt, zm_le, mz_lt, mz_le, mm_eq, zs_bit, zs_or1, zs_div, zs_rem, ck_pos, if_pos, if_neg, true_or, or_true, true_and, and_true, false_or, or_false, false_and, and_false, not_true, not_false_iff, if_true, if_false, eq_self, Bool.false_eq_true, cl2_id, Bool.not_true, Bool.not_false]
      obtain ⟨f, rfl⟩ : ∃ n', f = n' + 1 := ⟨f - 1, by omega⟩
      rw [fX11_wordLine_58]
      by_cases hz : q + 1 < n
      · simp (disch := omega) only [h8, cl2_so, cl1_so, ck_tr, zl_0, zl_1, zl_2, zl_3, zl_4, zl_5, zl_6, zl_7, zl_8, zl_9, zl_10, zl_11, zl_12, zl_15, zl_16, zl_20, zl_24, zl_25, zl_30, zl_31, zl_32, zl_33, zl_44, zl_48, zl_50, zl_57, zl_59, zl_60, zl_61, zl_62, zl_63, zl_64, zl_68, zl_97, zl_99, zl_100, zl_104, zl_108, zl_114, zl_120, zl_122, zl_126, zl_132, zl_180, zl_181, zl_186, zl_255, zl_900, zl_930, zl_1000, zl_1000000, nI_add, pk_mul, zs_sub, zs_lt, zs_le, zs_eq, zs_inb, zs_cl, zm_eq, zm_eq2, zm_lt, zm_le, mz_lt, mz_le, mm_eq, zs_bit, zs_or1, zs_div, zs_rem, ck_pos, if_pos, if_neg, true_or, or_true, true_and, and_true, false_or, or_false, false_and, and_false, not_true, not_false_iff, if_true, if_false, eq_self, Bool.false_eq_true, cl2_id, Bool.not_true, Bool.not_false]
      · simp (disch := omega) only [h8, cl2_so, cl1_so, ck_tr, zl_0, zl_1, zl_2, zl_3, zl_4, zl_5, zl_6, zl_7, zl_8, zl_9, zl_10, zl_11, zl_12, zl_15, zl_16, zl_20, zl_24, zl_25, zl_30, zl_31, zl_32, zl_33, zl_44, zl_48, zl_50, zl_57, zl_59, zl_60, zl_61, zl_62, zl_63, zl_64, zl_68, zl_97, zl_99, zl_100, zl_104, zl_108, zl_114, zl_120, zl_122, zl_126, zl_132, zl_180, zl_181, zl_186, zl_255, zl_900, zl_930, zl_1000, zl_1000000, nI_add, pk_mul, zs_sub, zs_lt, zs_le, zs_eq, zs_inb, zs_cl, zm_eq, zm_eq2, zm_lt, zm_le, mz_lt, mz_le, mm_eq, zs_bit, zs_or1, zs_div, zs_rem, ck_pos, if_pos, if_neg, true_or, or_true, true_and, and_true, false_or, or_false, false_and, and_false, not_true, not_false_iff, if_true, if_false, eq_self, Bool.false_eq_true, cl2_id, Bool.not_true, Bool.not_false]
theorem wl21 (hL : LM m N b a n κ) (hk : κ = 1) (hMR : MR m 142 r) (hK : OKr r) : ∀ j w f, w + j = r 5 → j + 1 < f → fX11_wordLine_21 f (nI (r 5)) (nI w) m = if z_al (fun w => !smB r b a n w) w j then fX11_wordLine_130 (nI (r 5)) m else some (wrM m 3 a) := by
  have h5 := hK.2.2.2.1
  obtain ⟨hX, ⟨t4, t5, t6, t8, t7⟩, ⟨o1, o2, o3, o4, o5, o6⟩, h13⟩ := id hL
  obtain ⟨h8, hl⟩ := t8 hk
  have hn8 := (o5 hk).1
  have hn1 := o4 (by omega)
  intro j
  induction j with
  | zero =>
    intro w f hw hf
    obtain ⟨f, rfl⟩ : ∃ n', f = n' + 1 := ⟨f - 1, by omega⟩
    rw [fX11_wordLine_21, z_al, if_pos ((zs_le (by omega) (by omega)).mpr (by omega)), if_pos rfl]
  | succ j ih =>
    intro w f hw hf
    obtain ⟨f, rfl⟩ : ∃ n', f = n' + 1 := ⟨f - 1, by omega⟩
    have ih' := ih (w + 1) f (by omega) (by omega)
    have e1 := hMR (10 + w) (by omega)
    have e3 := hK.2.1 (10 + w) (by omega)
    have es := smB_e (b := b) (a := a) (n := n) hK.W (w := w) (by omega)
    obtain ⟨f, rfl⟩ : ∃ n', f = n' + 1 := ⟨f - 1, by omega⟩
    rw [fX11_wordLine_21, z_al]
    unfold fX11_wordLine_54
    by_cases hc : r (10 + w) = n
    · rw [decide_eq_true hc, Bool.true_and] at es
      have e5 := wl58 (k21 := fX11_wordLine_21 (f + 1)) (x1 := nI (r 5)) hL hk hMR (w := w) (by omega) hK.2.1 n 0 FU (by omega) (FU_pos (by omega))
      rw [← es] at e5
      unfold fX11_wordLine_111 fX11_wordLine_124 at e5
      simp (disch := omega) only [h13, e1, h8, hc, cl2_so, cl1_so, ck_tr, zl_0, zl_1, zl_2, zl_3, zl_4, zl_5, zl_6, zl_7, zl_8, zl_9, zl_10, zl_11, zl_12, zl_15, zl_16, zl_20, zl_24, zl_25, zl_30, zl_31, zl_32, zl_33, zl_44, zl_48, zl_50, zl_57, zl_59, zl_60, zl_61, zl_62, zl_63, zl_64, zl_68, zl_97, zl_99, zl_100, zl_104, zl_108, zl_114, zl_120, zl_122, zl_126, zl_132, zl_180, zl_181, zl_186, zl_255, zl_900, zl_930, zl_1000, zl_1000000, nI_add, pk_mul, zs_sub, zs_lt, zs_le, zs_eq, zs_inb, zs_cl, zm_eq, zm_eq2, zm_lt, zm_le, mz_lt, mz_le, mm_eq, zs_bit, zs_or1, zs_div, zs_rem, ck_pos, if_pos, if_neg, true_or, or_true, true_and, and_true, false_or, or_false, false_and, and_false, not_true, not_false_iff, if_true, if_false, eq_self, Bool.false_eq_true, cl2_id, Bool.not_true, Bool.not_false]
      refine e5.trans ?_
      cases hb : smB r b a n w
      · simp only [Bool.not_false, Bool.true_and, Bool.false_eq_true, if_false]
        rw [if_pos (by decide), zl_1, nI_add]
        exact ih'
      · simp only [Bool.not_true, Bool.false_and, Bool.false_eq_true, if_false]
        rw [if_neg (by decide), t4]
        refine (cl1_e (wrong_e h13 3 a)).trans ?_
        exact wl21_d (wr_13 _ _ _) _ _
    · rw [decide_eq_false hc, Bool.false_and] at es
      rw [es]
      simp only [Bool.not_false, Bool.true_and]
      have e5 : fX11_wordLine_58 FU (fX11_wordLine_21 (f + 1)) (nI (r 5)) (nI w) (nI 0) (nI 0) m = fX11_wordLine_21 (f + 1) (nI (r 5)) (nI (w + 1)) m := by
        rw [show FU = 1999 + 1 from rfl, fX11_wordLine_58]
        unfold fX11_wordLine_111 fX11_wordLine_124
        simp (disch := omega) only [h8, cl2_so, cl1_so, ck_tr, zl_0, zl_1, zl_2, zl_3, zl_4, zl_5, zl_6, zl_7, zl_8, zl_9, zl_10, zl_11, zl_12, zl_15, zl_16, zl_20, zl_24, zl_25, zl_30, zl_31, zl_32, zl_33, zl_44, zl_48, zl_50, zl_57, zl_59, zl_60, zl_61, zl_62, zl_63, zl_64, zl_68, zl_97, zl_99, zl_100, zl_104, zl_108, zl_114, zl_120, zl_122, zl_126, zl_132, zl_180, zl_181, zl_186, zl_255, zl_900, zl_930, zl_1000, zl_1000000, nI_add, pk_mul, zs_sub, zs_lt, zs_le, zs_eq, zs_inb, zs_cl, zm_eq, zm_eq2, zm_lt, zm_le, mz_lt, mz_le, mm_eq, zs_bit, zs_or1, zs_div, zs_rem, ck_pos, if_pos, if_neg, true_or, or_true, true_and, and_true, false_or, or_false, false_and, and_false, not_true, not_false_iff, if_true, if_false, eq_self, Bool.false_eq_true, cl2_id, Bool.not_true, Bool.not_false]
      simp (disch := omega) only [h13, e1, h8, hc, cl2_so, cl1_so, ck_tr, zl_0, zl_1, zl_2, zl_3, zl_4, zl_5, zl_6, zl_7, zl_8, zl_9, zl_10, zl_11, zl_12, zl_15, zl_16, zl_20, zl_24, zl_25, zl_30, zl_31, zl_32, zl_33, zl_44, zl_48, zl_50, zl_57, zl_59, zl_60, zl_61, zl_62, zl_63, zl_64, zl_68, zl_97, zl_99, zl_100, zl_104, zl_108, zl_114, zl_120, zl_122, zl_126, zl_132, zl_180, zl_181, zl_186, zl_255, zl_900, zl_930, zl_1000, zl_1000000, nI_add, pk_mul, zs_sub, zs_lt, zs_le, zs_eq, zs_inb, zs_cl, zm_eq, zm_eq2, zm_lt, zm_le, mz_lt, mz_le, mm_eq, zs_bit, zs_or1, zs_div, zs_rem, ck_pos, if_pos, if_neg, true_or, or_true, true_and, and_true, false_or, or_false, false_and, and_false, not_true, not_false_iff, if_true, if_false, eq_self, Bool.false_eq_true, cl2_id, Bool.not_true, Bool.not_false]
      exact e5.trans ih'
theorem line_word (ht : t = 3 ∨ t = 42) (hr0 : rr c0 1 2 = t) (hC : RC c0 mc t N b a n κ true r s) (hM : RM d0 mm N b a n κ r s) (hR : RP true r s) (hb : isB b a n κ 25 = true) : LO t N b a c0 d0 (fX6_readWord mc) (cl2 (fX11_begins 25 (nI (if r 5 < 6 then 1 else 0)) (5 : Int32) mm) fun _ m14 => fX11_wordLine m14) := by
  obtain ⟨⟨fr1, fr2⟩, hL, h3, h8, hCT, h4, hP⟩ := hC
  obtain ⟨hG, hLM, h9, hMR, hMS⟩ := hM
  obtain ⟨hK, hKs, hK4, hK9, hK98⟩ := hR.2 rfl
  have hf := hK.1
  obtain ⟨f0, f1, f2, f3, f4⟩ := id hf
  have rrm : ∀ m : Me, m.2 = mc.2 → rr m 1 2 = t := fun m e => by
    rw [← hr0]
    unfold Jvm.Pilot.CFanPartsLaw_law_r1864_615eae.rr
    rw [e, fr2]
  have hk1 := (isB_1 hb).1
  have hn1 : 1 ≤ n := hL.2.2.2.2.2.1 (by omega)
  have h5 := hK.2.2.2.1
  have c7 := hCT.2.1.2.1
  by_cases h50 : r 5 < 6
  · rw [if_pos h50]
    obtain ⟨a1, n1, κ1, hT1⟩ := Tk_ex N b hL.bd.1
    obtain ⟨c1, e1, hL1, y2, -⟩ := hL.st hT1
    obtain ⟨d1, e2, hM1, z2⟩ := beg_1 (r := r) hLM hT1 (by decide) hb (hMR 0 (by omega)) ⟨f0, f1⟩ (5 : Int32)
    have r1 := rrm c1 y2.2
    have c17 : c1.1 t 7 = nI (r 5) := (y2.1 t 7 (by omega)).trans c7
    have eF : fX6_readWord mc = cl2 (fX6_copyWord (t + 7 + 2 * r 5) c1) fun r12 m13 => if r12 = (0 : Int32) then some ((0 : Int32), m13) else fX6_readWord_56 FU (t + 7 + 2 * r 5) (0 : Int32) m13 := by
      unfold fX6_readWord
      rw [rrm mc rfl, c7, if_pos (show nI (r 5) < (6 : Int32) from (zs_lt (a := r 5) (b := 6) (by omega) (by omega)).mpr h50), e1, cl1_so, r1, c17, ck_pos ((zs_inb (by omega)).mpr h50), zs_cl (by omega)]
    have hMR1 : MR d1 142 r := fun k hk => (z2.1 142 k (by omega) (by omega)).trans (hMR k hk)
    have eG : (cl2 (fX11_begins 25 (nI 1) (5 : Int32) mm) fun _ m14 => fX11_wordLine m14) = cl1 (fX11_mustWord d1) fun m4 => fX11_wordLine_21 FU (nI (r 5)) (0 : Int32) m4 := by
      rw [e2, cl2_so]
      unfold fX11_wordLine
      rw [hM1.2.2.2, if_pos (by decide), hMR1 5 (by omega)]
    rw [eG]
    have k1 : ∀ x j, x ≠ 1 → ¬ (t ≤ x ∧ x ≤ t + 38) → c1.1 x j = c0.1 x j := fun x j q1 q2 => (y2.1 x j (by omega)).trans (fr1 x j q1 q2)
    have k2 : c1.2 = c0.2 := y2.2.trans fr2
    have hG1 := hG.tr z2.gf
    by_cases hk' : κ1 = 1
    · obtain ⟨c2, g1, g2, g3, g4, g5⟩ := cw_1 hL1 hk' (y := t + 7 + 2 * r 5) (by omega)
      have r2 := rrm c2 (g4.trans y2.2)
      have c27 : c2.1 t 7 = nI (r 5) := (g3 t 7 (by omega) (by omega)).trans c17
      have e5 := rw56 ht hK g5 hk' r2 c27 g2 (fun w hw => ((hCT.W w hw).cg (fun x j q => y2.1 x j (by omega))).cg (fun x j q => g3 x j (by omega) (by omega))) (r 5) 0 FU (by omega) (FU_pos (by omega))
      have e6 := wl21 hM1 hk' hMR1 hK (r 5) 0 FU (by omega) (FU_pos (by omega))
      rw [mw_1 hM1 hk', cl1_so]
      have e6' : fX11_wordLine_21 FU (nI (r 5)) (0 : Int32) d1 = _ := e6
      have e5' : fX6_readWord_56 FU (t + 7 + 2 * r 5) (0 : Int32) c2 = _ := e5
      rw [e6']
      cases hz : z_al (fun w => !smB r b a1 n1 w) 0 (r 5)
      · rw [hz, if_neg (by decide)] at e5'
        rw [if_neg (by decide)]
        refine Or.inl ⟨3, a1, by omega, ((flC_fl (m := c2) (nb := 3) (a := a1)).cx (t := t) (m0 := c0) (fun x j q1 q2 => (g3 x j (by omega) (by omega)).trans (k1 x j q1 q2)) (g4.trans k2)).eq (fun m' e => ?_), _, rfl, wr_FL _ _ _, hG1.wr _ _⟩
        rw [eF, g1, cl2_so, if_neg (by decide), e5']
        exact e
      · rw [hz, if_pos rfl] at e5'
        rw [if_pos rfl]
        obtain ⟨a2, n2, κ2, hT2⟩ := Tk_ex N b hL1.bd.1
        obtain ⟨c3, s1, s2, s3, -⟩ := g5.st hT2
        obtain ⟨d2, q1, q2, q3, q4, q5⟩ := kw_1 hM1 hT2 hk' (fr := 16 + 8 * r 5) (by omega)
        have r3 := rrm c3 (s3.2.trans (g4.trans y2.2))
        have c37 : c3.1 t 7 = nI (r 5) := (s3.1 t 7 (by omega)).trans c27
        obtain ⟨o1, o2, o3, o4, o5, o6⟩ := id hL1.2.2
        have hn8 := (o5 hk').1
        have hn1' := o4 (by omega)
        have ck3 : ∀ x j, x ≠ 1 → ¬ (x = t + 7 + 2 * r 5 ∧ j = 1) → x ≠ t + 7 + 2 * r 5 + 1 → c3.1 x j = mc.1 x j := fun x j z1 z2 z3 => (s3.1 x j (by omega)).trans ((g3 x j z2 z3).trans (y2.1 x j (by omega)))
        let r' : Nat → Nat := fun k => if k = 5 then r 5 + 1 else if k = 10 + r 5 then n1 else spn r b a1 (16 + 8 * r 5) n1 k
        have er : ∀ k, k ≠ 5 → k ≠ 10 + r 5 → ¬ (16 + 8 * r 5 ≤ k ∧ k < 16 + 8 * r 5 + n1) → r' k = r k := fun k z1 z2 z3 => by
          show (if k = 5 then r 5 + 1 else if k = 10 + r 5 then n1 else spn r b a1 (16 + 8 * r 5) n1 k) = r k
          rw [if_neg z1, if_neg z2, spn_out z3]
        have er5 : r' 5 = r 5 + 1 := rfl
        have er10 : r' (10 + r 5) = n1 := by
          show (if 10 + r 5 = 5 then r 5 + 1 else if 10 + r 5 = 10 + r 5 then n1 else _) = n1
          rw [if_neg (by omega), if_pos rfl]
        have erl : ∀ c, c < n1 → r' (16 + 8 * r 5 + c) = b (a1 + c) - 97 := fun c hc => by
          show (if 16 + 8 * r 5 + c = 5 then r 5 + 1 else if 16 + 8 * r 5 + c = 10 + r 5 then n1 else spn r b a1 (16 + 8 * r 5) n1 (16 + 8 * r 5 + c)) = _
          rw [if_neg (by omega), if_neg (by omega), spn_at hc]
        have ezo : ∀ w, w < r 5 → z_word r' w = z_word r w := fun w hw => by
          unfold z_word
          have := (hK.W w hw).2.1
          rw [er (10 + w) (by omega) (by omega) (by omega)]
          exact z_w_cg (fun k hk => er _ (by omega) (by omega) (by omega))
        have ezn : z_word r' (r 5) = wL b a1 n1 := by
          unfold z_word
          rw [er10]
          unfold z_w wL
          apply List.map_congr_left
          intro k hk
          exact erl k (List.mem_range.mp hk)
        refine Or.inr ⟨a2, n2, κ2, r', s, setI c3 t 7 (nI (r 5 + 1)), setI (setI d2 142 (10 + r 5) (nI n1)) 142 5 (nI (r 5 + 1)), ?_, ?_, ⟨⟨fun x j z1 z2 => ?_, ?_⟩, s2.cp (fun j => sI_na (by omega)) (fun j => sI_na (by omega)), ?_, ?_, ⟨⟨?_, ?_, ?_⟩, ⟨?_, ?_, ?_, ?_, ?_⟩, fun w hw => ?_, ?_, ?_, ?_⟩, ?_, ?_⟩, ⟨?_, q2.tb (fun x j z => (sI_na (by omega)).trans (sI_na (by omega))), ?_, fun k hk => ?_, fun k hk => ?_⟩, ⟨fun q => absurd q (by decide), fun _ => ⟨OKr.mk' (z_fan_cg (er 0 (by omega) (by omega) (by omega)) (er 1 (by omega) (by omega) (by omega)) (er 3 (by omega) (by omega) (by omega)) hf) (fun k hk => ?_) ?_ ?_ ?_ ?_ ?_ (fun w hw => ?_) (hK.I.cg hK.2.2.2.2.1 (fun k hk => er k (by omega) (by omega) (by omega))) (hK.S.cg hK.2.2.2.2.2.1 (fun k hk => er k (by omega) (by omega) (by omega))) (hK.B.cg hK.2.2.2.2.2.2.1 (fun k hk => er k (by omega) (by omega) (by omega))) (fun v w hv hw => ?_), hKs.cg (er 0 (by omega) (by omega) (by omega)) (er 1 (by omega) (by omega) (by omega)) (er 3 (by omega) (by omega) (by omega)), ?_, ?_, ?_⟩⟩, ?_⟩
        · rw [eF, g1, cl2_so, if_neg (by decide), e5', s1, cl1_so, r3, c37, zl_1, nI_add]
        · have i5 : (setI d2 142 (10 + r 5) (nI n1)).1 142 5 = nI (r 5) := by
            rw [sI_nj (by omega), q4 142 5 (by omega) (by omega) (by omega)]
            exact hMR1 5 (by omega)
          unfold fX11_wordLine_130
          rw [hM1.2.2.2, if_pos (by decide)]
          simp (disch := omega) only [q1, i5, cl2_so, cl1_so, ck_tr, zl_0, zl_1, zl_2, zl_3, zl_4, zl_5, zl_6, zl_7, zl_8, zl_9, zl_10, zl_11, zl_12, zl_15, zl_16, zl_20, zl_24, zl_25, zl_30, zl_31, zl_32, zl_33, zl_44, zl_48, zl_50, zl_57, zl_59, zl_60, zl_61, zl_62, zl_63, zl_64, zl_68, zl_97, zl_99, zl_100, zl_104, zl_108, zl_114, zl_120, zl_122, zl_126, zl_132, zl_180, zl_181, zl_186, zl_255, zl_900, zl_930, zl_1000, zl_1000000, nI_add, pk_mul, zs_sub, zs_lt, zs_le, zs_eq, zs_inb, zs_cl, zm_eq, zm_eq2, zm_lt, zm_le, mz_lt, mz_le, mm_eq, zs_bit, zs_or1, zs_div, zs_rem, ck_pos, if_pos, if_neg, true_or, or_true, true_and, and_true, false_or, or_false, false_and, and_false, not_true, not_false_iff, if_true, if_false, eq_self, Bool.false_eq_true, cl2_id, Bool.not_true, Bool.not_false]
        · rw [sI_na (by omega), ck3 x j z1 (by omega) (by omega)]
          exact fr1 x j z1 z2
        · exact s3.2.trans (g4.trans k2)
        · rw [sI_na (by omega), s3.1 1 3 (by omega), g3 1 3 (by omega) (by omega), y2.1 1 3 (by omega)]
          exact h3
        · rw [sI_na (by omega), s3.1 1 8 (by omega), g3 1 8 (by omega) (by omega), y2.1 1 8 (by omega)]
          exact h8
        · rw [sI_nj (by omega), ck3 t 0 (by omega) (by omega) (by omega), er 0 (by omega) (by omega) (by omega)]
          exact hCT.1.1
        · rw [sI_nj (by omega), ck3 t 1 (by omega) (by omega) (by omega), er 1 (by omega) (by omega) (by omega)]
          exact hCT.1.2.1
        · rw [sI_nj (by omega), ck3 t 3 (by omega) (by omega) (by omega), er 3 (by omega) (by omega) (by omega)]
          exact hCT.1.2.2
        · rw [sI_nj (by omega), ck3 t 2 (by omega) (by omega) (by omega), er 2 (by omega) (by omega) (by omega)]
          exact hCT.2.1.1
        · exact sI_eq _ _ _ _
        · rw [sI_nj (by omega), ck3 t 9 (by omega) (by omega) (by omega), er 6 (by omega) (by omega) (by omega)]
          exact hCT.2.1.2.2.1
        · rw [sI_nj (by omega), ck3 t 11 (by omega) (by omega) (by omega), er 7 (by omega) (by omega) (by omega)]
          exact hCT.2.1.2.2.2.1
        · rw [sI_nj (by omega), ck3 t 13 (by omega) (by omega) (by omega), er 8 (by omega) (by omega) (by omega)]
          exact hCT.2.1.2.2.2.2
        · by_cases z : w = r 5
          · subst z
            rw [ezn]
            exact (g2.cg (fun x j q => s3.1 x j (by omega))).cg (fun x j q => sI_na (by omega))
          · have hw' : w < r 5 := by omega
            rw [ezo w hw']
            exact (hCT.W w hw').cg (fun x j q => (sI_na (by omega)).trans (ck3 x j (by omega) (by omega) (by omega)))
        · exact cI.cg hCT.I hK.I hK.2.2.2.2.1 (fun x j z1 z2 => (sI_na (by omega)).trans (ck3 x j (by omega) (by omega) (by omega))) (fun k hk => er k (by omega) (by omega) (by omega))
        · exact cS.cg hCT.S hK.S hK.2.2.2.2.2.1 (fun x j z1 z2 => (sI_na (by omega)).trans (ck3 x j (by omega) (by omega) (by omega))) (fun k hk => er k (by omega) (by omega) (by omega))
        · exact cB.cg hCT.B hK.2.2.2.2.2.2.1 (fun j => (sI_na (by omega)).trans (ck3 _ j (by omega) (by omega) (by omega))) (fun k hk => er k (by omega) (by omega) (by omega))
        · rw [sI_nj (by omega), ck3 t 4 (by omega) (by omega) (by omega), er 4 (by omega) (by omega) (by omega)]
          exact h4
        · exact (hP.cg (fun x j z => (sI_na (by omega)).trans (ck3 x j (by omega) (by omega) (by omega)))).cr (er 0 (by omega) (by omega) (by omega)) (er 1 (by omega) (by omega) (by omega))
        · exact ⟨fun x j z1 z2 z3 z4 z5 => (sI_na z3).trans ((sI_na z3).trans ((q4 x j (by omega) z2 (by omega)).trans (hG1.1 x j z1 z2 z3 z4 z5))), q5.trans hG1.2⟩
        · rw [sI_na (by decide), sI_na (by decide), q4 138 9 (by omega) (by omega) (by omega), z2.1 138 9 (by omega) (by omega)]
          exact h9
        · by_cases z5 : k = 5
          · subst z5
            exact sI_eq _ _ _ _
          · rw [sI_nj z5]
            by_cases z10 : k = 10 + r 5
            · subst z10
              rw [sI_eq, er10]
            · rw [sI_nj z10]
              by_cases zl : 16 + 8 * r 5 ≤ k ∧ k < 16 + 8 * r 5 + n1
              · have := q3 (k - (16 + 8 * r 5)) (by omega)
                have el := erl (k - (16 + 8 * r 5)) (by omega)
                rw [show 16 + 8 * r 5 + (k - (16 + 8 * r 5)) = k by omega] at this el
                rw [this, el]
              · rw [q4 142 k (by omega) (by omega) (by omega), er k z5 z10 zl]
                exact hMR1 k hk
        · rw [sI_na (by decide), sI_na (by decide), q4 144 k (by omega) (by omega) (by omega), z2.1 144 k (by omega) (by omega)]
          exact hMS k hk
        · by_cases z5 : k = 5
          · subst z5
            rw [er5]
            omega
          · by_cases z10 : k = 10 + r 5
            · subst z10
              rw [er10]
              omega
            · by_cases zl : 16 + 8 * r 5 ≤ k ∧ k < 16 + 8 * r 5 + n1
              · have el := erl (k - (16 + 8 * r 5)) (by omega)
                have := (o5 hk').2 (k - (16 + 8 * r 5)) (by omega)
                rw [show 16 + 8 * r 5 + (k - (16 + 8 * r 5)) = k by omega] at el
                rw [el]
                omega
              · rw [er k z5 z10 zl]
                exact hK.2.1 k hk
        · rw [er 2 (by omega) (by omega) (by omega)]
          exact hK.2.2.1
        · rw [er5]
          omega
        · rw [er 6 (by omega) (by omega) (by omega)]
          exact hK.2.2.2.2.1
        · rw [er 7 (by omega) (by omega) (by omega)]
          exact hK.2.2.2.2.2.1
        · rw [er 8 (by omega) (by omega) (by omega)]
          exact hK.2.2.2.2.2.2.1
        · rw [er5] at hw
          by_cases z : w = r 5
          · subst z
            rw [er10]
            refine ⟨hn1', hn8, fun k hk => ?_⟩
            rw [erl k hk]
            have := (o5 hk').2 k hk
            omega
          · obtain ⟨w1, w2, w3⟩ := hK.W w (by omega)
            rw [er (10 + w) (by omega) (by omega) (by omega)]
            exact ⟨w1, w2, fun k hk => by rw [er (16 + 8 * w + k) (by omega) (by omega) (by omega)]; exact w3 k hk⟩
        · rw [er5] at hv hw
          have hns : ∀ w, w < r 5 → z_word r w ≠ wL b a1 n1 := fun w hw q => by
            have := (z_al_iff _ _ _).mp hz w (by omega) (by omega)
            rw [Bool.not_eq_true'] at this
            have h2 : smB r b a1 n1 w = true := eqB_iff.mpr q.symm
            rw [h2] at this
            cases this
          show z_word r' v = z_word r' w → v = w
          intro q
          by_cases zv : v = r 5
          · by_cases zw : w = r 5
            · omega
            · rw [zv, ezn, ezo w (by omega)] at q
              exact absurd q.symm (hns w (by omega))
          · by_cases zw : w = r 5
            · rw [zw, ezn, ezo v (by omega)] at q
              exact absurd q (hns v (by omega))
            · rw [ezo v (by omega), ezo w (by omega)] at q
              exact hK.D v w (by omega) (by omega) q
        · rw [er 4 (by omega) (by omega) (by omega), er 0 (by omega) (by omega) (by omega)]
          exact hK4
        · rw [er 9 (by omega) (by omega) (by omega)]
          exact hK9
        · rw [er 9 (by omega) (by omega) (by omega), er 8 (by omega) (by omega) (by omega)]
          exact hK98
        · have := hT1.1
          have := hT2.1
          omega
    · refine Or.inl ⟨1, a1, by omega, ((cw_0 hL1 hk' (t + 7 + 2 * r 5)).cx (t := t) (m0 := c0) k1 k2).eq (fun m' e => ?_), wrM d1 1 a1, ?_, wr_FL _ _ _, hG1.wr _ _⟩
      · rw [eF]
        refine Eq.trans (cl2_e e) ?_
        rfl
      · rw [mw_0 hM1 hk', cl1_so]
        exact wl21_d (f := 1999) (wr_13 _ _ _) _ _
  · rw [if_neg h50]
    have e5 := beg_0 (r := r) hLM (i := 25) (by decide) hb (hMR 0 (by omega)) ⟨f0, f1⟩ 5
    refine Or.inl ⟨5, a, by omega, ((flC_fl (m := mc) (nb := 5) (a := a)).cx (t := t) (m0 := c0) fr1 fr2).eq (fun m' e => ?_), wrM mm 5 a, ?_, wr_FL _ _ _, hG.wr _ _⟩
    · rw [← e]
      unfold fX6_readWord
      rw [rrm mc rfl, c7, if_neg (show ¬ nI (r 5) < (6 : Int32) from fun q => h50 ((zs_lt (a := r 5) (b := 6) (by omega) (by omega)).mp q))]
      simp (disch := omega) only [fail_e hL.2.1.1, cl2_so, cl1_so, ck_tr, zl_0, zl_1, zl_2, zl_3, zl_4, zl_5, zl_6, zl_7, zl_8, zl_9, zl_10, zl_11, zl_12, zl_15, zl_16, zl_20, zl_24, zl_25, zl_30, zl_31, zl_32, zl_33, zl_44, zl_48, zl_50, zl_57, zl_59, zl_60, zl_61, zl_62, zl_63, zl_64, zl_68, zl_97, zl_99, zl_100, zl_104, zl_108, zl_114, zl_120, zl_122, zl_126, zl_132, zl_180, zl_181, zl_186, zl_255, zl_900, zl_930, zl_1000, zl_1000000, nI_add, pk_mul, zs_sub, zs_lt, zs_le, zs_eq, zs_inb, zs_cl, zm_eq, zm_eq2, zm_lt, zm_le, mz_lt, mz_le, mm_eq, zs_bit, zs_or1, zs_div, zs_rem, ck_pos, if_pos, if_neg, true_or, or_true, true_and, and_true, false_or, or_false, false_and, and_false, not_true, not_false_iff, if_true, if_false, eq_self, Bool.false_eq_true, cl2_id, Bool.not_true, Bool.not_false]
    · refine (cl2_e e5).trans (word_d (wr_13 _ _ _))
end WORD
