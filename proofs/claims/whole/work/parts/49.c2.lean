/-! shows, letter, at, reads, readAt, says, kept, allKept, loses, flutters -/
def z_or (g : Nat → Bool) : Nat → Nat → Nat → Nat
  | _, 0, acc => acc
  | k, j + 1, acc => z_or g (k + 1) j (if g k then acc ||| 2 ^ k else acc)
def rd (w LT : List Nat) : Bool := decide (z_rdN w LT ≠ 0)
theorem rdB_e (w LT : List Nat) : rdB w LT = if rd w LT then 1 else 0 := by
  unfold rdB rd
  by_cases h : z_rdN w LT = 0 <;> simp [h]
theorem rd_0 {w LT : List Nat} (h : rd w LT = false) : z_rdN w LT = 0 := by
  unfold rd at h
  simpa using h
theorem rd_1 {w LT : List Nat} (h : rd w LT = true) : 1 ≤ z_rdN w LT := by
  unfold rd at h
  have : z_rdN w LT ≠ 0 := by simpa using h
  omega
theorem z_or_test (g : Nat → Bool) : ∀ j k acc i, (z_or g k j acc).testBit i = (acc.testBit i || (decide (k ≤ i ∧ i < k + j) && g i))
  | 0, k, acc, i => by
    rw [z_or, decide_eq_false (by omega)]
    simp
  | j + 1, k, acc, i => by
    rw [z_or, z_or_test g j (k + 1)]
    by_cases hi : i = k
    · subst hi
      rw [decide_eq_false (show ¬ (i + 1 ≤ i ∧ i < i + 1 + j) by omega), decide_eq_true (show i ≤ i ∧ i < i + (j + 1) by omega)]
      cases hg : g i <;> simp [Nat.testBit_or, Nat.testBit_two_pow_self]
    · have e : decide (k + 1 ≤ i ∧ i < k + 1 + j) = decide (k ≤ i ∧ i < k + (j + 1)) := by
        apply decide_eq_decide.mpr
        omega
      rw [e]
      cases hg : g k
      · simp
      · have : (2 ^ k).testBit i = false := Nat.testBit_two_pow_of_ne (by omega)
        simp [Nat.testBit_or, this]
theorem z_or_lt (g : Nat → Bool) (n : Nat) : z_or g 0 n 0 < 2 ^ n := by
  apply Nat.lt_pow_two_of_testBit
  intro i hi
  rw [z_or_test]
  simp
  omega
section C3
variable {m : Me} {H : Bool} {t : Nat} {r s : Nat → Nat} {x1 x2 x3 x4 : Int32}
theorem vr_le (H : Bool) (r : Nat → Nat) (x1 x2 x3 : Int32) : vr H r x1 x2 x3 ≤ 2 := by
  unfold vr
  split
  · exact vw_le _ _ _ _
  · omega
theorem vr_out (hO : JO H r s) (h : vr H r x1 x2 x3 = 0) : H = true ∧ ∃ w side op, w < r 5 ∧ side ≤ 1 ∧ op ≤ z_mo r ∧ x1 = nI w ∧ x2 = nI side ∧ x3 = nI op := by
  unfold vr at h
  by_cases h1 : vN H (r 5) x1 = true
  · rw [if_pos h1] at h
    obtain ⟨e, side, op, a, b, c, d⟩ := vw_out (fun e => (hO e).1.1) h
    obtain ⟨w, hw, rfl⟩ := vN_in ((hO e).1.2.1 5 (by decide)) h1
    exact ⟨e, w, side, op, hw, a, b, rfl, c, d⟩
  · rw [if_neg h1] at h; cases h
theorem b_shows (hI : Inv m) (hC : JC m H r s) (hM : JM m H r s) (hO : JO H r s) : Both (fX10_shows x1 x2) (fX11_shows x1 x2) m := by
  have hle := vw_le H r x1 x2
  by_cases hv : vw H r x1 x2 = 0
  · obtain ⟨rfl, side, op, a, b, rfl, rfl⟩ := vw_out (fun e => (hO e).1.1) hv
    have hK := hO rfl
    obtain ⟨m', e, h1, h2, h3, h4⟩ := (hC.kc hI).lookAt hK a b
    refine ⟨nI (z_show r side op (s 60)).length, 0, ?_, fun m1 h1 => ?_⟩
    · unfold fX10_shows
      have e2 : m'.1 88 2 = nI (z_show r side op (s 60)).length := by rw [h3.1, zT_len]
      simp (disch := omega) only [fX10_wrongView_e hC hO, hv, e, e2, cl2_so, cl1_so, ck_tr, zl_0, zl_1, zl_2, zl_3, zl_4, zl_5, zl_6, zl_7, zl_8, zl_9, zl_10, zl_11, zl_12, zl_15, zl_16, zl_20, zl_24, zl_25, zl_30, zl_31, zl_32, zl_33, zl_44, zl_48, zl_50, zl_57, zl_59, zl_60, zl_61, zl_62, zl_63, zl_64, zl_68, zl_97, zl_99, zl_100, zl_104, zl_108, zl_114, zl_120, zl_122, zl_126, zl_132, zl_180, zl_181, zl_186, zl_255, zl_900, zl_930, zl_1000, zl_1000000, nI_add, pk_mul, zs_sub, zs_lt, zs_le, zs_eq, zs_inb, zs_cl, zm_eq, zm_eq2, zm_lt, zm_le, mz_lt, mz_le, mm_eq, zs_bit, zs_or1, zs_div, zs_rem, ck_pos, if_pos, if_neg, true_or, or_true, true_and, and_true, false_or, or_false, false_and, and_false, not_true, not_false_iff, if_true, if_false, eq_self, Bool.false_eq_true, cl2_id, Bool.not_true, Bool.not_false]
      exact ansC_ok _ h1
    · have hM1 := hM.ag (h1.agC.tr (gd_ak m1).agM)
      unfold fX11_shows fX11_shows_29
      simp (disch := omega) only [gd_e, fX11_openWhy_e hM1 hO, hv, hM1.km.layNow hK a b, cl2_so, cl1_so, ck_tr, zl_0, zl_1, zl_2, zl_3, zl_4, zl_5, zl_6, zl_7, zl_8, zl_9, zl_10, zl_11, zl_12, zl_15, zl_16, zl_20, zl_24, zl_25, zl_30, zl_31, zl_32, zl_33, zl_44, zl_48, zl_50, zl_57, zl_59, zl_60, zl_61, zl_62, zl_63, zl_64, zl_68, zl_97, zl_99, zl_100, zl_104, zl_108, zl_114, zl_120, zl_122, zl_126, zl_132, zl_180, zl_181, zl_186, zl_255, zl_900, zl_930, zl_1000, zl_1000000, nI_add, pk_mul, zs_sub, zs_lt, zs_le, zs_eq, zs_inb, zs_cl, zm_eq, zm_eq2, zm_lt, zm_le, mz_lt, mz_le, mm_eq, zs_bit, zs_or1, zs_div, zs_rem, ck_pos, if_pos, if_neg, true_or, or_true, true_and, and_true, false_or, or_false, false_and, and_false, not_true, not_false_iff, if_true, if_false, eq_self, Bool.false_eq_true, cl2_id, Bool.not_true, Bool.not_false]
      exact ansN_ok _ (ak_146 _)
  · refine ⟨-nI 1, vw H r x1 x2, ?_, fun m1 h1 => ?_⟩
    · unfold fX10_shows
      simp (disch := omega) only [fX10_wrongView_e hC hO, cl2_so, cl1_so, ck_tr, zl_0, zl_1, zl_2, zl_3, zl_4, zl_5, zl_6, zl_7, zl_8, zl_9, zl_10, zl_11, zl_12, zl_15, zl_16, zl_20, zl_24, zl_25, zl_30, zl_31, zl_32, zl_33, zl_44, zl_48, zl_50, zl_57, zl_59, zl_60, zl_61, zl_62, zl_63, zl_64, zl_68, zl_97, zl_99, zl_100, zl_104, zl_108, zl_114, zl_120, zl_122, zl_126, zl_132, zl_180, zl_181, zl_186, zl_255, zl_900, zl_930, zl_1000, zl_1000000, nI_add, pk_mul, zs_sub, zs_lt, zs_le, zs_eq, zs_inb, zs_cl, zm_eq, zm_eq2, zm_lt, zm_le, mz_lt, mz_le, mm_eq, zs_bit, zs_or1, zs_div, zs_rem, ck_pos, if_pos, if_neg, true_or, or_true, true_and, and_true, false_or, or_false, false_and, and_false, not_true, not_false_iff, if_true, if_false, eq_self, Bool.false_eq_true, cl2_id, Bool.not_true, Bool.not_false]
      exact ansC_no _ (Ak.rf m)
    · have hM1 := hM.ag (h1.agC.tr (gd_ak m1).agM)
      unfold fX11_shows fX11_shows_29
      simp (disch := omega) only [gd_e, fX11_openWhy_e hM1 hO, cl2_so, cl1_so, ck_tr, zl_0, zl_1, zl_2, zl_3, zl_4, zl_5, zl_6, zl_7, zl_8, zl_9, zl_10, zl_11, zl_12, zl_15, zl_16, zl_20, zl_24, zl_25, zl_30, zl_31, zl_32, zl_33, zl_44, zl_48, zl_50, zl_57, zl_59, zl_60, zl_61, zl_62, zl_63, zl_64, zl_68, zl_97, zl_99, zl_100, zl_104, zl_108, zl_114, zl_120, zl_122, zl_126, zl_132, zl_180, zl_181, zl_186, zl_255, zl_900, zl_930, zl_1000, zl_1000000, nI_add, pk_mul, zs_sub, zs_lt, zs_le, zs_eq, zs_inb, zs_cl, zm_eq, zm_eq2, zm_lt, zm_le, mz_lt, mz_le, mm_eq, zs_bit, zs_or1, zs_div, zs_rem, ck_pos, if_pos, if_neg, true_or, or_true, true_and, and_true, false_or, or_false, false_and, and_false, not_true, not_false_iff, if_true, if_false, eq_self, Bool.false_eq_true, cl2_id, Bool.not_true, Bool.not_false]
      exact ansM_no _ (gd_ak m1)
theorem within_n {n : Nat} {x : Int32} (hn : n < 1000) : fX11_within x (nI 0) (nI n - nI 1) m = some (nI (if vN true n x then 1 else 0), m) := by
  have e := within_e x 0 (nI n - nI 1) m
  rw [zl_0] at e
  rw [e]
  unfold vN
  by_cases h0 : 0 ≤ x
  · have e1 := i_le_pred hn h0
    rw [zl_1] at e1
    by_cases h1 : x < nI n
    · rw [if_pos ⟨h0, e1.mpr h1⟩, decide_eq_true ⟨h0, h1⟩]
      rfl
    · rw [if_neg (fun q => h1 (e1.mp q.2)), decide_eq_false (fun q => h1 q.2)]
      rfl
  · rw [if_neg (fun q => h0 q.1), decide_eq_false (fun q => h0 q.1)]
    rfl
theorem vN_lt0 {n : Nat} {x : Int32} {α : Type} {A B : α} : (if x < nI 0 then A else if x < nI n then B else A) = if vN true n x then B else A := by
  unfold vN
  by_cases h0 : x < nI 0
  · rw [if_pos h0, decide_eq_false (fun q => absurd q.1 (Int32.not_le.mpr h0))]
    rfl
  · by_cases h1 : x < nI n
    · rw [if_neg h0, if_pos h1, decide_eq_true ⟨Int32.not_lt.mp h0, h1⟩]
      rfl
    · rw [if_neg h0, if_neg h1, decide_eq_false (fun q => h1 q.2)]
      rfl
theorem KC.place (hC : KC m t r s) (hO : KO r s) {side op : Nat} (hs : side ≤ 1) (ho : op ≤ z_mo r) (hv : vw true r (nI side) (nI op) = 0) : ∃ m', fX10_wrongPlace (nI side) (nI op) x3 m = some (nI (if vN true (z_show r side op (s 60)).length x3 then 0 else 1), m') ∧ Ak sC m m' ∧ RLt m' 88 (zT r s side op (s 60)) ∧ RCl m' 88 ((z_show r side op (s 60)).map (z_cc r)) := by
  obtain ⟨m', e, h1, h2, h3, h4⟩ := hC.lookAt hO hs ho
  refine ⟨m', ?_, h1, h3, h4⟩
  unfold fX10_wrongPlace fX10_wrongPlace_37 fX10_wrongPlace_42
  have e2 : m'.1 88 2 = nI (z_show r side op (s 60)).length := by rw [h3.1, zT_len]
  simp (disch := omega) only [fX10_wrongView_e hC.jc (fun _ => hO), hv, e, e2, vN_lt0, cl2_so, cl1_so, ck_tr, zl_0, zl_1, zl_2, zl_3, zl_4, zl_5, zl_6, zl_7, zl_8, zl_9, zl_10, zl_11, zl_12, zl_15, zl_16, zl_20, zl_24, zl_25, zl_30, zl_31, zl_32, zl_33, zl_44, zl_48, zl_50, zl_57, zl_59, zl_60, zl_61, zl_62, zl_63, zl_64, zl_68, zl_97, zl_99, zl_100, zl_104, zl_108, zl_114, zl_120, zl_122, zl_126, zl_132, zl_180, zl_181, zl_186, zl_255, zl_900, zl_930, zl_1000, zl_1000000, nI_add, pk_mul, zs_sub, zs_lt, zs_le, zs_eq, zs_inb, zs_cl, zm_eq, zm_eq2, zm_lt, zm_le, mz_lt, mz_le, mm_eq, zs_bit, zs_or1, zs_div, zs_rem, ck_pos, if_pos, if_neg, true_or, or_true, true_and, and_true, false_or, or_false, false_and, and_false, not_true, not_false_iff, if_true, if_false, eq_self, Bool.false_eq_true, cl2_id, Bool.not_true, Bool.not_false]
  split <;> rfl
theorem KM.place (hM : KM m r s) (hO : KO r s) {side op : Nat} (hs : side ≤ 1) (ho : op ≤ z_mo r) (hv : vw true r (nI side) (nI op) = 0) : fX11_placeWhy (nI side) (nI op) x3 m = some (nI (if vN true (z_show r side op (s 60)).length x3 then 0 else 1), wl m 147 0 (z_show r side op (s 60))) := by
  unfold fX11_placeWhy fX11_placeWhy_37
  have h30 := z_show_len hO.1.1 (side := side) (br := s 60) ho
  simp (disch := omega) only [fX11_openWhy_e hM.jm (fun _ => hO), hv, hM.layNow hO hs ho, cl2_so, cl1_so, ck_tr, zl_0, zl_1, zl_2, zl_3, zl_4, zl_5, zl_6, zl_7, zl_8, zl_9, zl_10, zl_11, zl_12, zl_15, zl_16, zl_20, zl_24, zl_25, zl_30, zl_31, zl_32, zl_33, zl_44, zl_48, zl_50, zl_57, zl_59, zl_60, zl_61, zl_62, zl_63, zl_64, zl_68, zl_97, zl_99, zl_100, zl_104, zl_108, zl_114, zl_120, zl_122, zl_126, zl_132, zl_180, zl_181, zl_186, zl_255, zl_900, zl_930, zl_1000, zl_1000000, nI_add, pk_mul, zs_sub, zs_lt, zs_le, zs_eq, zs_inb, zs_cl, zm_eq, zm_eq2, zm_lt, zm_le, mz_lt, mz_le, mm_eq, zs_bit, zs_or1, zs_div, zs_rem, ck_pos, if_pos, if_neg, true_or, or_true, true_and, and_true, false_or, or_false, false_and, and_false, not_true, not_false_iff, if_true, if_false, eq_self, Bool.false_eq_true, cl2_id, Bool.not_true, Bool.not_false]
  rw [cl2_e (within_n (by omega))]
  cases vN true (z_show r side op (s 60)).length x3 <;> rfl
theorem b_letter (hI : Inv m) (hC : JC m H r s) (hM : JM m H r s) (hO : JO H r s) : Both (fX10_letter x1 x2 x3) (fX11_letter x1 x2 x3) m := by
  have hle := vw_le H r x1 x2
  by_cases hv : vw H r x1 x2 = 0
  · obtain ⟨rfl, side, op, a, b, rfl, rfl⟩ := vw_out (fun e => (hO e).1.1) hv
    have hK := hO rfl
    have h30 := z_show_len hK.1.1 (side := side) (br := s 60) b
    obtain ⟨m', e, h1, h2, h3⟩ := (hC.kc hI).place hK (x3 := x3) a b hv
    cases hp : vN true (z_show r side op (s 60)).length x3
    · refine ⟨-nI 1, 1, ?_, fun m1 h1 => ?_⟩
      · unfold fX10_letter
        simp (disch := omega) only [e, hp, cl2_so, cl1_so, ck_tr, zl_0, zl_1, zl_2, zl_3, zl_4, zl_5, zl_6, zl_7, zl_8, zl_9, zl_10, zl_11, zl_12, zl_15, zl_16, zl_20, zl_24, zl_25, zl_30, zl_31, zl_32, zl_33, zl_44, zl_48, zl_50, zl_57, zl_59, zl_60, zl_61, zl_62, zl_63, zl_64, zl_68, zl_97, zl_99, zl_100, zl_104, zl_108, zl_114, zl_120, zl_122, zl_126, zl_132, zl_180, zl_181, zl_186, zl_255, zl_900, zl_930, zl_1000, zl_1000000, nI_add, pk_mul, zs_sub, zs_lt, zs_le, zs_eq, zs_inb, zs_cl, zm_eq, zm_eq2, zm_lt, zm_le, mz_lt, mz_le, mm_eq, zs_bit, zs_or1, zs_div, zs_rem, ck_pos, if_pos, if_neg, true_or, or_true, true_and, and_true, false_or, or_false, false_and, and_false, not_true, not_false_iff, if_true, if_false, eq_self, Bool.false_eq_true, cl2_id, Bool.not_true, Bool.not_false]
        exact ansC_no _ h1
      · have hM1 := hM.ag (h1.agC.tr (gd_ak m1).agM)
        unfold fX11_letter fX11_letter_36
        simp (disch := omega) only [gd_e, hM1.km.place hK a b hv, hp, cl2_so, cl1_so, ck_tr, zl_0, zl_1, zl_2, zl_3, zl_4, zl_5, zl_6, zl_7, zl_8, zl_9, zl_10, zl_11, zl_12, zl_15, zl_16, zl_20, zl_24, zl_25, zl_30, zl_31, zl_32, zl_33, zl_44, zl_48, zl_50, zl_57, zl_59, zl_60, zl_61, zl_62, zl_63, zl_64, zl_68, zl_97, zl_99, zl_100, zl_104, zl_108, zl_114, zl_120, zl_122, zl_126, zl_132, zl_180, zl_181, zl_186, zl_255, zl_900, zl_930, zl_1000, zl_1000000, nI_add, pk_mul, zs_sub, zs_lt, zs_le, zs_eq, zs_inb, zs_cl, zm_eq, zm_eq2, zm_lt, zm_le, mz_lt, mz_le, mm_eq, zs_bit, zs_or1, zs_div, zs_rem, ck_pos, if_pos, if_neg, true_or, or_true, true_and, and_true, false_or, or_false, false_and, and_false, not_true, not_false_iff, if_true, if_false, eq_self, Bool.false_eq_true, cl2_id, Bool.not_true, Bool.not_false]
        exact ansN_no _ (ak_146 _)
    · obtain ⟨k, hk, rfl⟩ := vN_in (by omega) hp
      have h25 := zT_25 hK (s 60) a b (k := k) (by rw [zT_len]; exact hk)
      refine ⟨seenV ((zT r s side op (s 60)).getD k 0), 0, ?_, fun m1 h1 => ?_⟩
      · unfold fX10_letter
        have e2 := h2.2 k (by rw [zT_len]; exact hk)
        simp (disch := omega) only [e, hp, e2, fX10_letterOrBare_e (Nat.lt_of_le_of_lt h25 (by decide)), cl2_so, cl1_so, ck_tr, zl_0, zl_1, zl_2, zl_3, zl_4, zl_5, zl_6, zl_7, zl_8, zl_9, zl_10, zl_11, zl_12, zl_15, zl_16, zl_20, zl_24, zl_25, zl_30, zl_31, zl_32, zl_33, zl_44, zl_48, zl_50, zl_57, zl_59, zl_60, zl_61, zl_62, zl_63, zl_64, zl_68, zl_97, zl_99, zl_100, zl_104, zl_108, zl_114, zl_120, zl_122, zl_126, zl_132, zl_180, zl_181, zl_186, zl_255, zl_900, zl_930, zl_1000, zl_1000000, nI_add, pk_mul, zs_sub, zs_lt, zs_le, zs_eq, zs_inb, zs_cl, zm_eq, zm_eq2, zm_lt, zm_le, mz_lt, mz_le, mm_eq, zs_bit, zs_or1, zs_div, zs_rem, ck_pos, if_pos, if_neg, true_or, or_true, true_and, and_true, false_or, or_false, false_and, and_false, not_true, not_false_iff, if_true, if_false, eq_self, Bool.false_eq_true, cl2_id, Bool.not_true, Bool.not_false]
        exact ansC_ok _ h1
      · have hM1 := hM.ag (h1.agC.tr (gd_ak m1).agM)
        unfold fX11_letter fX11_letter_36
        have e2 := fX11_letterAt_e (hM1.km.ag (ak_146 (z_show r side op (s 60))).agN).2.2 (ML_wl (m := gdM m1) (z_show r side op (s 60))) h30 (z_show_lt hK.1.1 b) a hk
        simp (disch := omega) only [gd_e, hM1.km.place hK a b hv, hp, e2, cl2_so, cl1_so, ck_tr, zl_0, zl_1, zl_2, zl_3, zl_4, zl_5, zl_6, zl_7, zl_8, zl_9, zl_10, zl_11, zl_12, zl_15, zl_16, zl_20, zl_24, zl_25, zl_30, zl_31, zl_32, zl_33, zl_44, zl_48, zl_50, zl_57, zl_59, zl_60, zl_61, zl_62, zl_63, zl_64, zl_68, zl_97, zl_99, zl_100, zl_104, zl_108, zl_114, zl_120, zl_122, zl_126, zl_132, zl_180, zl_181, zl_186, zl_255, zl_900, zl_930, zl_1000, zl_1000000, nI_add, pk_mul, zs_sub, zs_lt, zs_le, zs_eq, zs_inb, zs_cl, zm_eq, zm_eq2, zm_lt, zm_le, mz_lt, mz_le, mm_eq, zs_bit, zs_or1, zs_div, zs_rem, ck_pos, if_pos, if_neg, true_or, or_true, true_and, and_true, false_or, or_false, false_and, and_false, not_true, not_false_iff, if_true, if_false, eq_self, Bool.false_eq_true, cl2_id, Bool.not_true, Bool.not_false]
        show AnsM (fX11_seenAs (nI ((zT r s side op (s 60)).getD k 0)) _) _ 0 m1
        rw [fX11_seenAs_e (Nat.lt_of_le_of_lt h25 (by decide))]
        exact ansN_ok _ (ak_146 _)
  · refine ⟨-nI 1, vw H r x1 x2, ?_, fun m1 h1 => ?_⟩
    · unfold fX10_letter fX10_wrongPlace
      simp (disch := omega) only [fX10_wrongView_e hC hO, cl2_so, cl1_so, ck_tr, zl_0, zl_1, zl_2, zl_3, zl_4, zl_5, zl_6, zl_7, zl_8, zl_9, zl_10, zl_11, zl_12, zl_15, zl_16, zl_20, zl_24, zl_25, zl_30, zl_31, zl_32, zl_33, zl_44, zl_48, zl_50, zl_57, zl_59, zl_60, zl_61, zl_62, zl_63, zl_64, zl_68, zl_97, zl_99, zl_100, zl_104, zl_108, zl_114, zl_120, zl_122, zl_126, zl_132, zl_180, zl_181, zl_186, zl_255, zl_900, zl_930, zl_1000, zl_1000000, nI_add, pk_mul, zs_sub, zs_lt, zs_le, zs_eq, zs_inb, zs_cl, zm_eq, zm_eq2, zm_lt, zm_le, mz_lt, mz_le, mm_eq, zs_bit, zs_or1, zs_div, zs_rem, ck_pos, if_pos, if_neg, true_or, or_true, true_and, and_true, false_or, or_false, false_and, and_false, not_true, not_false_iff, if_true, if_false, eq_self, Bool.false_eq_true, cl2_id, Bool.not_true, Bool.not_false]
      exact ansC_no _ (Ak.rf m)
    · have hM1 := hM.ag (h1.agC.tr (gd_ak m1).agM)
      unfold fX11_letter fX11_letter_36 fX11_placeWhy
      simp (disch := omega) only [gd_e, fX11_openWhy_e hM1 hO, cl2_so, cl1_so, ck_tr, zl_0, zl_1, zl_2, zl_3, zl_4, zl_5, zl_6, zl_7, zl_8, zl_9, zl_10, zl_11, zl_12, zl_15, zl_16, zl_20, zl_24, zl_25, zl_30, zl_31, zl_32, zl_33, zl_44, zl_48, zl_50, zl_57, zl_59, zl_60, zl_61, zl_62, zl_63, zl_64, zl_68, zl_97, zl_99, zl_100, zl_104, zl_108, zl_114, zl_120, zl_122, zl_126, zl_132, zl_180, zl_181, zl_186, zl_255, zl_900, zl_930, zl_1000, zl_1000000, nI_add, pk_mul, zs_sub, zs_lt, zs_le, zs_eq, zs_inb, zs_cl, zm_eq, zm_eq2, zm_lt, zm_le, mz_lt, mz_le, mm_eq, zs_bit, zs_or1, zs_div, zs_rem, ck_pos, if_pos, if_neg, true_or, or_true, true_and, and_true, false_or, or_false, false_and, and_false, not_true, not_false_iff, if_true, if_false, eq_self, Bool.false_eq_true, cl2_id, Bool.not_true, Bool.not_false]
      exact ansM_no _ (gd_ak m1)
theorem b_at (hI : Inv m) (hC : JC m H r s) (hM : JM m H r s) (hO : JO H r s) : Both (fX10_at x1 x2 x3) (fX11_at x1 x2 x3) m := by
  have hle := vw_le H r x1 x2
  by_cases hv : vw H r x1 x2 = 0
  · obtain ⟨rfl, side, op, a, b, rfl, rfl⟩ := vw_out (fun e => (hO e).1.1) hv
    have hK := hO rfl
    have h30 := z_show_len hK.1.1 (side := side) (br := s 60) b
    obtain ⟨m', e, h1, h2, h3⟩ := (hC.kc hI).place hK (x3 := x3) a b hv
    cases hp : vN true (z_show r side op (s 60)).length x3
    · refine ⟨-nI 1, 1, ?_, fun m1 h1 => ?_⟩
      · unfold fX10_at
        simp (disch := omega) only [e, hp, cl2_so, cl1_so, ck_tr, zl_0, zl_1, zl_2, zl_3, zl_4, zl_5, zl_6, zl_7, zl_8, zl_9, zl_10, zl_11, zl_12, zl_15, zl_16, zl_20, zl_24, zl_25, zl_30, zl_31, zl_32, zl_33, zl_44, zl_48, zl_50, zl_57, zl_59, zl_60, zl_61, zl_62, zl_63, zl_64, zl_68, zl_97, zl_99, zl_100, zl_104, zl_108, zl_114, zl_120, zl_122, zl_126, zl_132, zl_180, zl_181, zl_186, zl_255, zl_900, zl_930, zl_1000, zl_1000000, nI_add, pk_mul, zs_sub, zs_lt, zs_le, zs_eq, zs_inb, zs_cl, zm_eq, zm_eq2, zm_lt, zm_le, mz_lt, mz_le, mm_eq, zs_bit, zs_or1, zs_div, zs_rem, ck_pos, if_pos, if_neg, true_or, or_true, true_and, and_true, false_or, or_false, false_and, and_false, not_true, not_false_iff, if_true, if_false, eq_self, Bool.false_eq_true, cl2_id, Bool.not_true, Bool.not_false]
        exact ansC_no _ h1
      · have hM1 := hM.ag (h1.agC.tr (gd_ak m1).agM)
        unfold fX11_at fX11_at_51
        simp (disch := omega) only [gd_e, hM1.km.place hK a b hv, hp, cl2_so, cl1_so, ck_tr, zl_0, zl_1, zl_2, zl_3, zl_4, zl_5, zl_6, zl_7, zl_8, zl_9, zl_10, zl_11, zl_12, zl_15, zl_16, zl_20, zl_24, zl_25, zl_30, zl_31, zl_32, zl_33, zl_44, zl_48, zl_50, zl_57, zl_59, zl_60, zl_61, zl_62, zl_63, zl_64, zl_68, zl_97, zl_99, zl_100, zl_104, zl_108, zl_114, zl_120, zl_122, zl_126, zl_132, zl_180, zl_181, zl_186, zl_255, zl_900, zl_930, zl_1000, zl_1000000, nI_add, pk_mul, zs_sub, zs_lt, zs_le, zs_eq, zs_inb, zs_cl, zm_eq, zm_eq2, zm_lt, zm_le, mz_lt, mz_le, mm_eq, zs_bit, zs_or1, zs_div, zs_rem, ck_pos, if_pos, if_neg, true_or, or_true, true_and, and_true, false_or, or_false, false_and, and_false, not_true, not_false_iff, if_true, if_false, eq_self, Bool.false_eq_true, cl2_id, Bool.not_true, Bool.not_false]
        exact ansN_no _ (ak_146 _)
    · obtain ⟨k, hk, rfl⟩ := vN_in (by omega) hp
      have hc := z_show_lt hK.1.1 b _ (getD_mem0 hk)
      refine ⟨nI (z_cc r ((z_show r side op (s 60)).getD k 0)), 0, ?_, fun m1 h1 => ?_⟩
      · unfold fX10_at
        have e2 := h3.2 k (by simpa using hk)
        rw [getD_map0 hk] at e2
        simp (disch := omega) only [e, hp, e2, cl2_so, cl1_so, ck_tr, zl_0, zl_1, zl_2, zl_3, zl_4, zl_5, zl_6, zl_7, zl_8, zl_9, zl_10, zl_11, zl_12, zl_15, zl_16, zl_20, zl_24, zl_25, zl_30, zl_31, zl_32, zl_33, zl_44, zl_48, zl_50, zl_57, zl_59, zl_60, zl_61, zl_62, zl_63, zl_64, zl_68, zl_97, zl_99, zl_100, zl_104, zl_108, zl_114, zl_120, zl_122, zl_126, zl_132, zl_180, zl_181, zl_186, zl_255, zl_900, zl_930, zl_1000, zl_1000000, nI_add, pk_mul, zs_sub, zs_lt, zs_le, zs_eq, zs_inb, zs_cl, zm_eq, zm_eq2, zm_lt, zm_le, mz_lt, mz_le, mm_eq, zs_bit, zs_or1, zs_div, zs_rem, ck_pos, if_pos, if_neg, true_or, or_true, true_and, and_true, false_or, or_false, false_and, and_false, not_true, not_false_iff, if_true, if_false, eq_self, Bool.false_eq_true, cl2_id, Bool.not_true, Bool.not_false]
        exact ansC_ok _ h1
      · have hM1 := hM.ag (h1.agC.tr (gd_ak m1).agM)
        have hM2 := hM1.km.ag (ak_146 (z_show r side op (s 60))).agN
        unfold fX11_at fX11_at_51 z_cc
        have e1 := hM2.2.1 1 (by omega)
        have e2 := ML_wl (m := gdM m1) (z_show r side op (s 60)) k hk
        have e3 := pk_rem (a := (z_show r side op (s 60)).getD k 0) (d := 3) (by omega) (by omega) (by omega)
        have e4 : nI ((z_show r side op (s 60)).getD k 0) - nI ((z_show r side op (s 60)).getD k 0 / 3 * 3) = nI ((z_show r side op (s 60)).getD k 0 % 3) := by
          rw [← e3, pk_div (by omega) (by omega) (by omega), pk_mul]
        simp (disch := omega) only [gd_e, hM1.km.place hK a b hv, hp, e1, e2, e4, cl2_so, cl1_so, ck_tr, zl_0, zl_1, zl_2, zl_3, zl_4, zl_5, zl_6, zl_7, zl_8, zl_9, zl_10, zl_11, zl_12, zl_15, zl_16, zl_20, zl_24, zl_25, zl_30, zl_31, zl_32, zl_33, zl_44, zl_48, zl_50, zl_57, zl_59, zl_60, zl_61, zl_62, zl_63, zl_64, zl_68, zl_97, zl_99, zl_100, zl_104, zl_108, zl_114, zl_120, zl_122, zl_126, zl_132, zl_180, zl_181, zl_186, zl_255, zl_900, zl_930, zl_1000, zl_1000000, nI_add, pk_mul, zs_sub, zs_lt, zs_le, zs_eq, zs_inb, zs_cl, zm_eq, zm_eq2, zm_lt, zm_le, mz_lt, mz_le, mm_eq, zs_bit, zs_or1, zs_div, zs_rem, ck_pos, if_pos, if_neg, true_or, or_true, true_and, and_true, false_or, or_false, false_and, and_false, not_true, not_false_iff, if_true, if_false, eq_self, Bool.false_eq_true, cl2_id, Bool.not_true, Bool.not_false]
        exact ansN_ok _ (ak_146 _)
  · refine ⟨-nI 1, vw H r x1 x2, ?_, fun m1 h1 => ?_⟩
    · unfold fX10_at fX10_wrongPlace
      simp (disch := omega) only [fX10_wrongView_e hC hO, cl2_so, cl1_so, ck_tr, zl_0, zl_1, zl_2, zl_3, zl_4, zl_5, zl_6, zl_7, zl_8, zl_9, zl_10, zl_11, zl_12, zl_15, zl_16, zl_20, zl_24, zl_25, zl_30, zl_31, zl_32, zl_33, zl_44, zl_48, zl_50, zl_57, zl_59, zl_60, zl_61, zl_62, zl_63, zl_64, zl_68, zl_97, zl_99, zl_100, zl_104, zl_108, zl_114, zl_120, zl_122, zl_126, zl_132, zl_180, zl_181, zl_186, zl_255, zl_900, zl_930, zl_1000, zl_1000000, nI_add, pk_mul, zs_sub, zs_lt, zs_le, zs_eq, zs_inb, zs_cl, zm_eq, zm_eq2, zm_lt, zm_le, mz_lt, mz_le, mm_eq, zs_bit, zs_or1, zs_div, zs_rem, ck_pos, if_pos, if_neg, true_or, or_true, true_and, and_true, false_or, or_false, false_and, and_false, not_true, not_false_iff, if_true, if_false, eq_self, Bool.false_eq_true, cl2_id, Bool.not_true, Bool.not_false]
      exact ansC_no _ (Ak.rf m)
    · have hM1 := hM.ag (h1.agC.tr (gd_ak m1).agM)
      unfold fX11_at fX11_at_51 fX11_placeWhy
      simp (disch := omega) only [gd_e, fX11_openWhy_e hM1 hO, cl2_so, cl1_so, ck_tr, zl_0, zl_1, zl_2, zl_3, zl_4, zl_5, zl_6, zl_7, zl_8, zl_9, zl_10, zl_11, zl_12, zl_15, zl_16, zl_20, zl_24, zl_25, zl_30, zl_31, zl_32, zl_33, zl_44, zl_48, zl_50, zl_57, zl_59, zl_60, zl_61, zl_62, zl_63, zl_64, zl_68, zl_97, zl_99, zl_100, zl_104, zl_108, zl_114, zl_120, zl_122, zl_126, zl_132, zl_180, zl_181, zl_186, zl_255, zl_900, zl_930, zl_1000, zl_1000000, nI_add, pk_mul, zs_sub, zs_lt, zs_le, zs_eq, zs_inb, zs_cl, zm_eq, zm_eq2, zm_lt, zm_le, mz_lt, mz_le, mm_eq, zs_bit, zs_or1, zs_div, zs_rem, ck_pos, if_pos, if_neg, true_or, or_true, true_and, and_true, false_or, or_false, false_and, and_false, not_true, not_false_iff, if_true, if_false, eq_self, Bool.false_eq_true, cl2_id, Bool.not_true, Bool.not_false]
      exact ansM_no _ (gd_ak m1)
theorem KC.tt (h : KC m t r s) : t = 3 ∨ t = 42 := kd2_two h.2.1
theorem KC.word (h : KC m t r s) {w : Nat} (hw : w < r 5) : SY m (t + 7 + 2 * w) (z_word r w) := h.2.2.1.2.2.1 w hw
theorem KC.wish (h : KC m t r s) {w : Nat} (hw : w < r 6) : SY m (t + 19 + 2 * w) (z_wish r w) ∧ m.1 (t + 19 + 2 * w) 2 = nI (r (100 + w)) ∧ m.1 (t + 19 + 2 * w) 3 = nI (r (104 + w)) := h.2.2.1.2.2.2.1 w hw
theorem KC.seen (h : KC m t r s) {q : Nat} (hq : q < r 7) : SY m (t + 27 + 2 * q) (z_seen r q) ∧ m.1 (t + 27 + 2 * q) 2 = nI (r (108 + q)) ∧ m.1 (t + 27 + 2 * q) 3 = nI (r (114 + q)) ∧ m.1 (t + 27 + 2 * q) 4 = nI (r (120 + q)) := h.2.2.1.2.2.2.2.1 q hq
theorem zT_k (hO : KO r s) {side op : Nat} (br : Nat) (hs : side ≤ 1) (ho : op ≤ z_mo r) : ∀ k, k < (zT r s side op br).length → (zT r s side op br).getD k 0 < 1000 := fun k hk => by have := zT_25 hO br hs ho hk; omega
theorem b_reads (hI : Inv m) (hC : JC m H r s) (hM : JM m H r s) (hO : JO H r s) : Both (fX10_reads x1 x2 x3) (fX11_reads x1 x2 x3) m := by
  have hle := vr_le H r x1 x2 x3
  by_cases hv : vr H r x1 x2 x3 = 0
  · obtain ⟨rfl, w, side, op, hw, a, b, rfl, rfl, rfl⟩ := vr_out hO hv
    have hK := hO rfl
    have h5 := hK.1.2.2.2.1
    obtain ⟨m', e, h1, h2, h3, h4⟩ := (hC.kc hI).lookAt hK a b
    have ht := (hC.kc hI).tt
    have hwk := word_ok hK.1 hw
    refine ⟨nI (z_rdN (z_word r w) (zT r s side op (s 60))), 0, ?_, fun m1 h1 => ?_⟩
    · unfold fX10_reads
      have e2 := fX7_timesRead_e h3 (h2.word hw) hwk.2.1 hwk.1 (zT_30 hK _ b) hwk.2.2 (zT_k hK _ a b)
      simp (disch := omega) only [fX10_wrongReading_e hC hO, hv, e, h2.1, e2, cl2_so, cl1_so, ck_tr, zl_0, zl_1, zl_2, zl_3, zl_4, zl_5, zl_6, zl_7, zl_8, zl_9, zl_10, zl_11, zl_12, zl_15, zl_16, zl_20, zl_24, zl_25, zl_30, zl_31, zl_32, zl_33, zl_44, zl_48, zl_50, zl_57, zl_59, zl_60, zl_61, zl_62, zl_63, zl_64, zl_68, zl_97, zl_99, zl_100, zl_104, zl_108, zl_114, zl_120, zl_122, zl_126, zl_132, zl_180, zl_181, zl_186, zl_255, zl_900, zl_930, zl_1000, zl_1000000, nI_add, pk_mul, zs_sub, zs_lt, zs_le, zs_eq, zs_inb, zs_cl, zm_eq, zm_eq2, zm_lt, zm_le, mz_lt, mz_le, mm_eq, zs_bit, zs_or1, zs_div, zs_rem, ck_pos, if_pos, if_neg, true_or, or_true, true_and, and_true, false_or, or_false, false_and, and_false, not_true, not_false_iff, if_true, if_false, eq_self, Bool.false_eq_true, cl2_id, Bool.not_true, Bool.not_false]
      exact ansC_ok _ h1
    · have hM1 := hM.ag (h1.agC.tr (gd_ak m1).agM)
      obtain ⟨m2, e2, g1, g2, g3⟩ := hM1.km.readsWord hK hw a b
      unfold fX11_reads fX11_reads_34
      simp (disch := omega) only [gd_e, fX11_wordWhy_e hM1 hO, hv, e2, cl2_so, cl1_so, ck_tr, zl_0, zl_1, zl_2, zl_3, zl_4, zl_5, zl_6, zl_7, zl_8, zl_9, zl_10, zl_11, zl_12, zl_15, zl_16, zl_20, zl_24, zl_25, zl_30, zl_31, zl_32, zl_33, zl_44, zl_48, zl_50, zl_57, zl_59, zl_60, zl_61, zl_62, zl_63, zl_64, zl_68, zl_97, zl_99, zl_100, zl_104, zl_108, zl_114, zl_120, zl_122, zl_126, zl_132, zl_180, zl_181, zl_186, zl_255, zl_900, zl_930, zl_1000, zl_1000000, nI_add, pk_mul, zs_sub, zs_lt, zs_le, zs_eq, zs_inb, zs_cl, zm_eq, zm_eq2, zm_lt, zm_le, mz_lt, mz_le, mm_eq, zs_bit, zs_or1, zs_div, zs_rem, ck_pos, if_pos, if_neg, true_or, or_true, true_and, and_true, false_or, or_false, false_and, and_false, not_true, not_false_iff, if_true, if_false, eq_self, Bool.false_eq_true, cl2_id, Bool.not_true, Bool.not_false]
      exact ansN_ok _ g1
  · refine ⟨-nI 1, vr H r x1 x2 x3, ?_, fun m1 h1 => ?_⟩
    · unfold fX10_reads
      simp (disch := omega) only [fX10_wrongReading_e hC hO, cl2_so, cl1_so, ck_tr, zl_0, zl_1, zl_2, zl_3, zl_4, zl_5, zl_6, zl_7, zl_8, zl_9, zl_10, zl_11, zl_12, zl_15, zl_16, zl_20, zl_24, zl_25, zl_30, zl_31, zl_32, zl_33, zl_44, zl_48, zl_50, zl_57, zl_59, zl_60, zl_61, zl_62, zl_63, zl_64, zl_68, zl_97, zl_99, zl_100, zl_104, zl_108, zl_114, zl_120, zl_122, zl_126, zl_132, zl_180, zl_181, zl_186, zl_255, zl_900, zl_930, zl_1000, zl_1000000, nI_add, pk_mul, zs_sub, zs_lt, zs_le, zs_eq, zs_inb, zs_cl, zm_eq, zm_eq2, zm_lt, zm_le, mz_lt, mz_le, mm_eq, zs_bit, zs_or1, zs_div, zs_rem, ck_pos, if_pos, if_neg, true_or, or_true, true_and, and_true, false_or, or_false, false_and, and_false, not_true, not_false_iff, if_true, if_false, eq_self, Bool.false_eq_true, cl2_id, Bool.not_true, Bool.not_false]
      exact ansC_no _ (Ak.rf m)
    · have hM1 := hM.ag (h1.agC.tr (gd_ak m1).agM)
      unfold fX11_reads fX11_reads_34
      simp (disch := omega) only [gd_e, fX11_wordWhy_e hM1 hO, cl2_so, cl1_so, ck_tr, zl_0, zl_1, zl_2, zl_3, zl_4, zl_5, zl_6, zl_7, zl_8, zl_9, zl_10, zl_11, zl_12, zl_15, zl_16, zl_20, zl_24, zl_25, zl_30, zl_31, zl_32, zl_33, zl_44, zl_48, zl_50, zl_57, zl_59, zl_60, zl_61, zl_62, zl_63, zl_64, zl_68, zl_97, zl_99, zl_100, zl_104, zl_108, zl_114, zl_120, zl_122, zl_126, zl_132, zl_180, zl_181, zl_186, zl_255, zl_900, zl_930, zl_1000, zl_1000000, nI_add, pk_mul, zs_sub, zs_lt, zs_le, zs_eq, zs_inb, zs_cl, zm_eq, zm_eq2, zm_lt, zm_le, mz_lt, mz_le, mm_eq, zs_bit, zs_or1, zs_div, zs_rem, ck_pos, if_pos, if_neg, true_or, or_true, true_and, and_true, false_or, or_false, false_and, and_false, not_true, not_false_iff, if_true, if_false, eq_self, Bool.false_eq_true, cl2_id, Bool.not_true, Bool.not_false]
      exact ansM_no _ (gd_ak m1)
theorem b_readAt (hI : Inv m) (hC : JC m H r s) (hM : JM m H r s) (hO : JO H r s) : Both (fX10_readAt x1 x2 x3) (fX11_readAt x1 x2 x3) m := by
  have hle := vr_le H r x1 x2 x3
  by_cases hv : vr H r x1 x2 x3 = 0
  · obtain ⟨rfl, w, side, op, hw, a, b, rfl, rfl, rfl⟩ := vr_out hO hv
    have hK := hO rfl
    have h5 := hK.1.2.2.2.1
    obtain ⟨m', e, h1, h2, h3, h4⟩ := (hC.kc hI).lookAt hK a b
    have ht := (hC.kc hI).tt
    have hwk := word_ok hK.1 hw
    refine ⟨z_oi (z_rdF (z_word r w) (zT r s side op (s 60))), 0, ?_, fun m1 h1 => ?_⟩
    · unfold fX10_readAt
      have e2 := fX7_firstRead_e h3 (h2.word hw) hwk.2.1 hwk.1 (zT_30 hK _ b) hwk.2.2 (zT_k hK _ a b)
      simp (disch := omega) only [fX10_wrongReading_e hC hO, hv, e, h2.1, e2, cl2_so, cl1_so, ck_tr, zl_0, zl_1, zl_2, zl_3, zl_4, zl_5, zl_6, zl_7, zl_8, zl_9, zl_10, zl_11, zl_12, zl_15, zl_16, zl_20, zl_24, zl_25, zl_30, zl_31, zl_32, zl_33, zl_44, zl_48, zl_50, zl_57, zl_59, zl_60, zl_61, zl_62, zl_63, zl_64, zl_68, zl_97, zl_99, zl_100, zl_104, zl_108, zl_114, zl_120, zl_122, zl_126, zl_132, zl_180, zl_181, zl_186, zl_255, zl_900, zl_930, zl_1000, zl_1000000, nI_add, pk_mul, zs_sub, zs_lt, zs_le, zs_eq, zs_inb, zs_cl, zm_eq, zm_eq2, zm_lt, zm_le, mz_lt, mz_le, mm_eq, zs_bit, zs_or1, zs_div, zs_rem, ck_pos, if_pos, if_neg, true_or, or_true, true_and, and_true, false_or, or_false, false_and, and_false, not_true, not_false_iff, if_true, if_false, eq_self, Bool.false_eq_true, cl2_id, Bool.not_true, Bool.not_false]
      exact ansC_ok _ h1
    · have hM1 := hM.ag (h1.agC.tr (gd_ak m1).agM)
      obtain ⟨m2, e2, g1, g2, g3⟩ := hM1.km.readsWord hK hw a b
      unfold fX11_readAt
      simp (disch := omega) only [gd_e, fX11_wordWhy_e hM1 hO, hv, e2, g3, cl2_so, cl1_so, ck_tr, zl_0, zl_1, zl_2, zl_3, zl_4, zl_5, zl_6, zl_7, zl_8, zl_9, zl_10, zl_11, zl_12, zl_15, zl_16, zl_20, zl_24, zl_25, zl_30, zl_31, zl_32, zl_33, zl_44, zl_48, zl_50, zl_57, zl_59, zl_60, zl_61, zl_62, zl_63, zl_64, zl_68, zl_97, zl_99, zl_100, zl_104, zl_108, zl_114, zl_120, zl_122, zl_126, zl_132, zl_180, zl_181, zl_186, zl_255, zl_900, zl_930, zl_1000, zl_1000000, nI_add, pk_mul, zs_sub, zs_lt, zs_le, zs_eq, zs_inb, zs_cl, zm_eq, zm_eq2, zm_lt, zm_le, mz_lt, mz_le, mm_eq, zs_bit, zs_or1, zs_div, zs_rem, ck_pos, if_pos, if_neg, true_or, or_true, true_and, and_true, false_or, or_false, false_and, and_false, not_true, not_false_iff, if_true, if_false, eq_self, Bool.false_eq_true, cl2_id, Bool.not_true, Bool.not_false]
      exact ansN_ok _ g1
  · refine ⟨-nI 1, vr H r x1 x2 x3, ?_, fun m1 h1 => ?_⟩
    · unfold fX10_readAt
      simp (disch := omega) only [fX10_wrongReading_e hC hO, cl2_so, cl1_so, ck_tr, zl_0, zl_1, zl_2, zl_3, zl_4, zl_5, zl_6, zl_7, zl_8, zl_9, zl_10, zl_11, zl_12, zl_15, zl_16, zl_20, zl_24, zl_25, zl_30, zl_31, zl_32, zl_33, zl_44, zl_48, zl_50, zl_57, zl_59, zl_60, zl_61, zl_62, zl_63, zl_64, zl_68, zl_97, zl_99, zl_100, zl_104, zl_108, zl_114, zl_120, zl_122, zl_126, zl_132, zl_180, zl_181, zl_186, zl_255, zl_900, zl_930, zl_1000, zl_1000000, nI_add, pk_mul, zs_sub, zs_lt, zs_le, zs_eq, zs_inb, zs_cl, zm_eq, zm_eq2, zm_lt, zm_le, mz_lt, mz_le, mm_eq, zs_bit, zs_or1, zs_div, zs_rem, ck_pos, if_pos, if_neg, true_or, or_true, true_and, and_true, false_or, or_false, false_and, and_false, not_true, not_false_iff, if_true, if_false, eq_self, Bool.false_eq_true, cl2_id, Bool.not_true, Bool.not_false]
      exact ansC_no _ (Ak.rf m)
    · have hM1 := hM.ag (h1.agC.tr (gd_ak m1).agM)
      unfold fX11_readAt
      simp (disch := omega) only [gd_e, fX11_wordWhy_e hM1 hO, cl2_so, cl1_so, ck_tr, zl_0, zl_1, zl_2, zl_3, zl_4, zl_5, zl_6, zl_7, zl_8, zl_9, zl_10, zl_11, zl_12, zl_15, zl_16, zl_20, zl_24, zl_25, zl_30, zl_31, zl_32, zl_33, zl_44, zl_48, zl_50, zl_57, zl_59, zl_60, zl_61, zl_62, zl_63, zl_64, zl_68, zl_97, zl_99, zl_100, zl_104, zl_108, zl_114, zl_120, zl_122, zl_126, zl_132, zl_180, zl_181, zl_186, zl_255, zl_900, zl_930, zl_1000, zl_1000000, nI_add, pk_mul, zs_sub, zs_lt, zs_le, zs_eq, zs_inb, zs_cl, zm_eq, zm_eq2, zm_lt, zm_le, mz_lt, mz_le, mm_eq, zs_bit, zs_or1, zs_div, zs_rem, ck_pos, if_pos, if_neg, true_or, or_true, true_and, and_true, false_or, or_false, false_and, and_false, not_true, not_false_iff, if_true, if_false, eq_self, Bool.false_eq_true, cl2_id, Bool.not_true, Bool.not_false]
      exact ansM_no _ (gd_ak m1)
/-! says -/
theorem say29 (hO : KO r s) {side op : Nat} (hs : side ≤ 1) (ho : op ≤ z_mo r) (h : KC m t r s) (hR : RLt m 88 (zT r s side op (s 60))) : ∀ j k n acc, k + j = r 5 → j < n → fX10_says_29 n (nI acc) (nI k) m = fX10_answer (nI (z_or (fun w => rd (z_word r w) (zT r s side op (s 60))) k j acc)) m := by
  have h5 := hO.1.2.2.2.1
  have ht := h.tt
  have e7 := h.2.2.1.2.1.2.1
  intro j
  induction j with
  | zero =>
    intro k n acc hk hn
    obtain ⟨n, rfl⟩ : ∃ n', n = n' + 1 := ⟨n - 1, by omega⟩
    rw [fX10_says_29, z_or]
    simp (disch := omega) only [h.1, e7, cl2_so, cl1_so, ck_tr, zl_0, zl_1, zl_2, zl_3, zl_4, zl_5, zl_6, zl_7, zl_8, zl_9, zl_10, zl_11, zl_12, zl_15, zl_16, zl_20, zl_24, zl_25, zl_30, zl_31, zl_32, zl_33, zl_44, zl_48, zl_50, zl_57, zl_59, zl_60, zl_61, zl_62, zl_63, zl_64, zl_68, zl_97, zl_99, zl_100, zl_104, zl_108, zl_114, zl_120, zl_122, zl_126, zl_132, zl_180, zl_181, zl_186, zl_255, zl_900, zl_930, zl_1000, zl_1000000, nI_add, pk_mul, zs_sub, zs_lt, zs_le, zs_eq, zs_inb, zs_cl, zm_eq, zm_eq2, zm_lt, zm_le, mz_lt, mz_le, mm_eq, zs_bit, zs_or1, zs_div, zs_rem, ck_pos, if_pos, if_neg, true_or, or_true, true_and, and_true, false_or, or_false, false_and, and_false, not_true, not_false_iff, if_true, if_false, eq_self, Bool.false_eq_true, cl2_id, Bool.not_true, Bool.not_false]
  | succ j ih =>
    intro k n acc hk hn
    obtain ⟨n, rfl⟩ : ∃ n', n = n' + 1 := ⟨n - 1, by omega⟩
    rw [fX10_says_29, z_or]
    have hwk := word_ok hO.1 (w := k) (by omega)
    have e2 := fX7_isRead_e hR (h.word (w := k) (by omega)) hwk.2.1 hwk.1 (zT_30 hO _ ho) hwk.2.2 (zT_k hO _ hs ho)
    have e3 := rdB_e (z_word r k) (zT r s side op (s 60))
    unfold rdB at e3
    rw [e3] at e2
    unfold fX10_says_70
    cases hg : rd (z_word r k) (zT r s side op (s 60))
    · simp (disch := omega) only [h.1, e7, e2, hg, cl2_so, cl1_so, ck_tr, zl_0, zl_1, zl_2, zl_3, zl_4, zl_5, zl_6, zl_7, zl_8, zl_9, zl_10, zl_11, zl_12, zl_15, zl_16, zl_20, zl_24, zl_25, zl_30, zl_31, zl_32, zl_33, zl_44, zl_48, zl_50, zl_57, zl_59, zl_60, zl_61, zl_62, zl_63, zl_64, zl_68, zl_97, zl_99, zl_100, zl_104, zl_108, zl_114, zl_120, zl_122, zl_126, zl_132, zl_180, zl_181, zl_186, zl_255, zl_900, zl_930, zl_1000, zl_1000000, nI_add, pk_mul, zs_sub, zs_lt, zs_le, zs_eq, zs_inb, zs_cl, zm_eq, zm_eq2, zm_lt, zm_le, mz_lt, mz_le, mm_eq, zs_bit, zs_or1, zs_div, zs_rem, ck_pos, if_pos, if_neg, true_or, or_true, true_and, and_true, false_or, or_false, false_and, and_false, not_true, not_false_iff, if_true, if_false, eq_self, Bool.false_eq_true, cl2_id, Bool.not_true, Bool.not_false]
      exact ih (k + 1) n acc (by omega) (by omega)
    · simp (disch := omega) only [h.1, e7, e2, hg, cl2_so, cl1_so, ck_tr, zl_0, zl_1, zl_2, zl_3, zl_4, zl_5, zl_6, zl_7, zl_8, zl_9, zl_10, zl_11, zl_12, zl_15, zl_16, zl_20, zl_24, zl_25, zl_30, zl_31, zl_32, zl_33, zl_44, zl_48, zl_50, zl_57, zl_59, zl_60, zl_61, zl_62, zl_63, zl_64, zl_68, zl_97, zl_99, zl_100, zl_104, zl_108, zl_114, zl_120, zl_122, zl_126, zl_132, zl_180, zl_181, zl_186, zl_255, zl_900, zl_930, zl_1000, zl_1000000, nI_add, pk_mul, zs_sub, zs_lt, zs_le, zs_eq, zs_inb, zs_cl, zm_eq, zm_eq2, zm_lt, zm_le, mz_lt, mz_le, mm_eq, zs_bit, zs_or1, zs_div, zs_rem, ck_pos, if_pos, if_neg, true_or, or_true, true_and, and_true, false_or, or_false, false_and, and_false, not_true, not_false_iff, if_true, if_false, eq_self, Bool.false_eq_true, cl2_id, Bool.not_true, Bool.not_false]
      exact ih (k + 1) n _ (by omega) (by omega)
theorem say27 (hO : KO r s) {side op : Nat} (hs : side ≤ 1) (ho : op ≤ z_mo r) : ∀ j k n acc (m : Me), KM m r s → k + j = r 5 → j < n → ∃ m', fX11_says_27 n (nI side) (nI op) (nI acc) (nI k) m = some (nI (z_or (fun w => rd (z_word r w) (zT r s side op (s 60))) k j acc), m') ∧ Ak sN m m' := by
  have h5 := hO.1.2.2.2.1
  intro j
  induction j with
  | zero =>
    intro k n acc m h hk hn
    obtain ⟨n, rfl⟩ : ∃ n', n = n' + 1 := ⟨n - 1, by omega⟩
    refine ⟨m, ?_, Ak.rf m⟩
    rw [fX11_says_27, z_or]
    simp (disch := omega) only [h.2.1 5 (by omega), cl2_so, cl1_so, ck_tr, zl_0, zl_1, zl_2, zl_3, zl_4, zl_5, zl_6, zl_7, zl_8, zl_9, zl_10, zl_11, zl_12, zl_15, zl_16, zl_20, zl_24, zl_25, zl_30, zl_31, zl_32, zl_33, zl_44, zl_48, zl_50, zl_57, zl_59, zl_60, zl_61, zl_62, zl_63, zl_64, zl_68, zl_97, zl_99, zl_100, zl_104, zl_108, zl_114, zl_120, zl_122, zl_126, zl_132, zl_180, zl_181, zl_186, zl_255, zl_900, zl_930, zl_1000, zl_1000000, nI_add, pk_mul, zs_sub, zs_lt, zs_le, zs_eq, zs_inb, zs_cl, zm_eq, zm_eq2, zm_lt, zm_le, mz_lt, mz_le, mm_eq, zs_bit, zs_or1, zs_div, zs_rem, ck_pos, if_pos, if_neg, true_or, or_true, true_and, and_true, false_or, or_false, false_and, and_false, not_true, not_false_iff, if_true, if_false, eq_self, Bool.false_eq_true, cl2_id, Bool.not_true, Bool.not_false]
  | succ j ih =>
    intro k n acc m h hk hn
    obtain ⟨n, rfl⟩ : ∃ n', n = n' + 1 := ⟨n - 1, by omega⟩
    rw [fX11_says_27, z_or]
    obtain ⟨m1, e, g1, g2, -⟩ := h.readsWord hO (w := k) (by omega) hs ho
    unfold fX11_says_59
    have hbd : z_rdN (z_word r k) (zT r s side op (s 60)) ≤ 30 := Nat.le_trans (z_ct_le _ _ _) (zT_30 hO _ ho)
    cases hg : rd (z_word r k) (zT r s side op (s 60))
    · have h0 := rd_0 hg
      obtain ⟨m2, e2, g3⟩ := ih (k + 1) n (acc ||| 0) m1 g2 (by omega) (by omega)
      refine ⟨m2, ?_, g1.tr g3⟩
      simp (disch := omega) only [h.2.1 5 (by omega), e, h0, nI_orN, cl2_so, cl1_so, ck_tr, zl_0, zl_1, zl_2, zl_3, zl_4, zl_5, zl_6, zl_7, zl_8, zl_9, zl_10, zl_11, zl_12, zl_15, zl_16, zl_20, zl_24, zl_25, zl_30, zl_31, zl_32, zl_33, zl_44, zl_48, zl_50, zl_57, zl_59, zl_60, zl_61, zl_62, zl_63, zl_64, zl_68, zl_97, zl_99, zl_100, zl_104, zl_108, zl_114, zl_120, zl_122, zl_126, zl_132, zl_180, zl_181, zl_186, zl_255, zl_900, zl_930, zl_1000, zl_1000000, nI_add, pk_mul, zs_sub, zs_lt, zs_le, zs_eq, zs_inb, zs_cl, zm_eq, zm_eq2, zm_lt, zm_le, mz_lt, mz_le, mm_eq, zs_bit, zs_or1, zs_div, zs_rem, ck_pos, if_pos, if_neg, true_or, or_true, true_and, and_true, false_or, or_false, false_and, and_false, not_true, not_false_iff, if_true, if_false, eq_self, Bool.false_eq_true, cl2_id, Bool.not_true, Bool.not_false]
      rw [e2, Nat.or_zero]
    · have h0 := rd_1 hg
      obtain ⟨m2, e2, g3⟩ := ih (k + 1) n (acc ||| 2 ^ k) m1 g2 (by omega) (by omega)
      refine ⟨m2, ?_, g1.tr g3⟩
      simp (disch := omega) only [h.2.1 5 (by omega), e, cl2_so, cl1_so, ck_tr, zl_0, zl_1, zl_2, zl_3, zl_4, zl_5, zl_6, zl_7, zl_8, zl_9, zl_10, zl_11, zl_12, zl_15, zl_16, zl_20, zl_24, zl_25, zl_30, zl_31, zl_32, zl_33, zl_44, zl_48, zl_50, zl_57, zl_59, zl_60, zl_61, zl_62, zl_63, zl_64, zl_68, zl_97, zl_99, zl_100, zl_104, zl_108, zl_114, zl_120, zl_122, zl_126, zl_132, zl_180, zl_181, zl_186, zl_255, zl_900, zl_930, zl_1000, zl_1000000, nI_add, pk_mul, zs_sub, zs_lt, zs_le, zs_eq, zs_inb, zs_cl, zm_eq, zm_eq2, zm_lt, zm_le, mz_lt, mz_le, mm_eq, zs_bit, zs_or1, zs_div, zs_rem, ck_pos, if_pos, if_neg, true_or, or_true, true_and, and_true, false_or, or_false, false_and, and_false, not_true, not_false_iff, if_true, if_false, eq_self, Bool.false_eq_true, cl2_id, Bool.not_true, Bool.not_false]
      exact e2
theorem b_says (hI : Inv m) (hC : JC m H r s) (hM : JM m H r s) (hO : JO H r s) : Both (fX10_says x1 x2) (fX11_says x1 x2) m := by
  have hle := vw_le H r x1 x2
  by_cases hv : vw H r x1 x2 = 0
  · obtain ⟨rfl, side, op, a, b, rfl, rfl⟩ := vw_out (fun e => (hO e).1.1) hv
    have hK := hO rfl
    obtain ⟨m', e, h1, h2, h3, h4⟩ := (hC.kc hI).lookAt hK a b
    have h5 := hK.1.2.2.2.1
    refine ⟨nI (z_or (fun w => rd (z_word r w) (zT r s side op (s 60))) 0 (r 5) 0), 0, ?_, fun m1 h1 => ?_⟩
    · unfold fX10_says
      simp (disch := omega) only [fX10_wrongView_e hC hO, hv, e, cl2_so, cl1_so, ck_tr, zl_0, zl_1, zl_2, zl_3, zl_4, zl_5, zl_6, zl_7, zl_8, zl_9, zl_10, zl_11, zl_12, zl_15, zl_16, zl_20, zl_24, zl_25, zl_30, zl_31, zl_32, zl_33, zl_44, zl_48, zl_50, zl_57, zl_59, zl_60, zl_61, zl_62, zl_63, zl_64, zl_68, zl_97, zl_99, zl_100, zl_104, zl_108, zl_114, zl_120, zl_122, zl_126, zl_132, zl_180, zl_181, zl_186, zl_255, zl_900, zl_930, zl_1000, zl_1000000, nI_add, pk_mul, zs_sub, zs_lt, zs_le, zs_eq, zs_inb, zs_cl, zm_eq, zm_eq2, zm_lt, zm_le, mz_lt, mz_le, mm_eq, zs_bit, zs_or1, zs_div, zs_rem, ck_pos, if_pos, if_neg, true_or, or_true, true_and, and_true, false_or, or_false, false_and, and_false, not_true, not_false_iff, if_true, if_false, eq_self, Bool.false_eq_true, cl2_id, Bool.not_true, Bool.not_false]
      rw [say29 hK a b h2 h3 (r 5) 0 FU 0 (by omega) (FU_pos (by omega))]
      exact ansC_ok _ h1
    · have hM1 := hM.ag (h1.agC.tr (gd_ak m1).agM)
      obtain ⟨m2, e2, g⟩ := say27 hK a b (r 5) 0 FU 0 _ hM1.km (by omega) (FU_pos (by omega))
      unfold fX11_says
      simp (disch := omega) only [gd_e, fX11_openWhy_e hM1 hO, hv, e2, cl2_so, cl1_so, ck_tr, zl_0, zl_1, zl_2, zl_3, zl_4, zl_5, zl_6, zl_7, zl_8, zl_9, zl_10, zl_11, zl_12, zl_15, zl_16, zl_20, zl_24, zl_25, zl_30, zl_31, zl_32, zl_33, zl_44, zl_48, zl_50, zl_57, zl_59, zl_60, zl_61, zl_62, zl_63, zl_64, zl_68, zl_97, zl_99, zl_100, zl_104, zl_108, zl_114, zl_120, zl_122, zl_126, zl_132, zl_180, zl_181, zl_186, zl_255, zl_900, zl_930, zl_1000, zl_1000000, nI_add, pk_mul, zs_sub, zs_lt, zs_le, zs_eq, zs_inb, zs_cl, zm_eq, zm_eq2, zm_lt, zm_le, mz_lt, mz_le, mm_eq, zs_bit, zs_or1, zs_div, zs_rem, ck_pos, if_pos, if_neg, true_or, or_true, true_and, and_true, false_or, or_false, false_and, and_false, not_true, not_false_iff, if_true, if_false, eq_self, Bool.false_eq_true, cl2_id, Bool.not_true, Bool.not_false]
      exact ansN_ok _ g
  · refine ⟨-nI 1, vw H r x1 x2, ?_, fun m1 h1 => ?_⟩
    · unfold fX10_says
      simp (disch := omega) only [fX10_wrongView_e hC hO, cl2_so, cl1_so, ck_tr, zl_0, zl_1, zl_2, zl_3, zl_4, zl_5, zl_6, zl_7, zl_8, zl_9, zl_10, zl_11, zl_12, zl_15, zl_16, zl_20, zl_24, zl_25, zl_30, zl_31, zl_32, zl_33, zl_44, zl_48, zl_50, zl_57, zl_59, zl_60, zl_61, zl_62, zl_63, zl_64, zl_68, zl_97, zl_99, zl_100, zl_104, zl_108, zl_114, zl_120, zl_122, zl_126, zl_132, zl_180, zl_181, zl_186, zl_255, zl_900, zl_930, zl_1000, zl_1000000, nI_add, pk_mul, zs_sub, zs_lt, zs_le, zs_eq, zs_inb, zs_cl, zm_eq, zm_eq2, zm_lt, zm_le, mz_lt, mz_le, mm_eq, zs_bit, zs_or1, zs_div, zs_rem, ck_pos, if_pos, if_neg, true_or, or_true, true_and, and_true, false_or, or_false, false_and, and_false, not_true, not_false_iff, if_true, if_false, eq_self, Bool.false_eq_true, cl2_id, Bool.not_true, Bool.not_false]
      exact ansC_no _ (Ak.rf m)
    · have hM1 := hM.ag (h1.agC.tr (gd_ak m1).agM)
      unfold fX11_says
      simp (disch := omega) only [gd_e, fX11_openWhy_e hM1 hO, cl2_so, cl1_so, ck_tr, zl_0, zl_1, zl_2, zl_3, zl_4, zl_5, zl_6, zl_7, zl_8, zl_9, zl_10, zl_11, zl_12, zl_15, zl_16, zl_20, zl_24, zl_25, zl_30, zl_31, zl_32, zl_33, zl_44, zl_48, zl_50, zl_57, zl_59, zl_60, zl_61, zl_62, zl_63, zl_64, zl_68, zl_97, zl_99, zl_100, zl_104, zl_108, zl_114, zl_120, zl_122, zl_126, zl_132, zl_180, zl_181, zl_186, zl_255, zl_900, zl_930, zl_1000, zl_1000000, nI_add, pk_mul, zs_sub, zs_lt, zs_le, zs_eq, zs_inb, zs_cl, zm_eq, zm_eq2, zm_lt, zm_le, mz_lt, mz_le, mm_eq, zs_bit, zs_or1, zs_div, zs_rem, ck_pos, if_pos, if_neg, true_or, or_true, true_and, and_true, false_or, or_false, false_and, and_false, not_true, not_false_iff, if_true, if_false, eq_self, Bool.false_eq_true, cl2_id, Bool.not_true, Bool.not_false]
      exact ansM_no _ (gd_ak m1)
end C3
