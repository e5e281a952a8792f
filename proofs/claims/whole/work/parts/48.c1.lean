/-! Calls, one by one: first what shows. -/
def Both (f g : Me → Option (Int32 × Me)) (m : Me) : Prop := ∃ V T, AnsC (f m) V T m ∧ ∀ m1, Ak sC m m1 → AnsM (g m1) V T m1
def seenV (x : Nat) : Int32 := if x = 25 then -nI 2 else nI x
theorem fX10_letterOrBare_e {x : Nat} (h : x < 1000) (m : Me) : fX10_letterOrBare (nI x) m = some (seenV x, m) := by
  unfold fX10_letterOrBare fX10_letterOrBare_12 seenV
  by_cases h1 : x = 25 <;> simp (disch := omega) only [h1, cl2_so, cl1_so, ck_tr, zl_0, zl_1, zl_2, zl_3, zl_4, zl_5, zl_6, zl_7, zl_8, zl_9, zl_10, zl_11, zl_12, zl_15, zl_16, zl_20, zl_24, zl_25, zl_30, zl_31, zl_32, zl_33, zl_44, zl_48, zl_50, zl_57, zl_59, zl_60, zl_61, zl_62, zl_63, zl_64, zl_68, zl_97, zl_99, zl_100, zl_104, zl_108, zl_114, zl_120, zl_122, zl_126, zl_132, zl_180, zl_181, zl_186, zl_255, zl_900, zl_930, zl_1000, zl_1000000, nI_add, pk_mul, zs_sub, zs_lt, zs_le, zs_eq, zs_inb, zs_cl, zm_eq, zm_eq2, zm_lt, zm_le, mz_lt, mz_le, mm_eq, zs_bit, zs_or1, zs_div, zs_rem, ck_pos, if_pos, if_neg, true_or, or_true, true_and, and_true, false_or, or_false, false_and, and_false, not_true, not_false_iff, if_true, if_false, eq_self, Bool.false_eq_true, cl2_id, Bool.not_true, Bool.not_false]
theorem fX11_seenAs_e {x : Nat} (h : x < 1000) (m : Me) : fX11_seenAs (nI x) m = some (seenV x, m) := by
  unfold fX11_seenAs fX11_seenAs_12 seenV
  by_cases h1 : x = 25 <;> simp (disch := omega) only [h1, cl2_so, cl1_so, ck_tr, zl_0, zl_1, zl_2, zl_3, zl_4, zl_5, zl_6, zl_7, zl_8, zl_9, zl_10, zl_11, zl_12, zl_15, zl_16, zl_20, zl_24, zl_25, zl_30, zl_31, zl_32, zl_33, zl_44, zl_48, zl_50, zl_57, zl_59, zl_60, zl_61, zl_62, zl_63, zl_64, zl_68, zl_97, zl_99, zl_100, zl_104, zl_108, zl_114, zl_120, zl_122, zl_126, zl_132, zl_180, zl_181, zl_186, zl_255, zl_900, zl_930, zl_1000, zl_1000000, nI_add, pk_mul, zs_sub, zs_lt, zs_le, zs_eq, zs_inb, zs_cl, zm_eq, zm_eq2, zm_lt, zm_le, mz_lt, mz_le, mm_eq, zs_bit, zs_or1, zs_div, zs_rem, ck_pos, if_pos, if_neg, true_or, or_true, true_and, and_true, false_or, or_false, false_and, and_false, not_true, not_false_iff, if_true, if_false, eq_self, Bool.false_eq_true, cl2_id, Bool.not_true, Bool.not_false]
section C1
variable {m : Me} {H : Bool} {r s : Nat → Nat} {x1 x2 x3 x4 : Int32}
theorem vN_in {n : Nat} {x : Int32} (hn : n < 1000) (h : vN H n x = true) : ∃ k, k < n ∧ x = nI k := (vN_out hn h).2
theorem vc_out (hO : JO H r s) (h : vc H r x1 x2 x3 = true) : H = true ∧ ∃ side rib c, side ≤ 1 ∧ rib < r 0 ∧ c < r 1 ∧ x1 = nI side ∧ x2 = nI rib ∧ x3 = nI c := by
  unfold vc at h
  rw [Bool.and_eq_true, Bool.and_eq_true] at h
  obtain ⟨h1, h2, h3⟩ := h
  have hH := vN_H h1
  have hf := (hO hH).1.2.1
  obtain ⟨side, a, ra⟩ := vN_in (by decide) h1
  obtain ⟨rib, b, rb⟩ := vN_in (hf 0 (by decide)) h2
  obtain ⟨c, d, rc⟩ := vN_in (hf 1 (by decide)) h3
  exact ⟨hH, side, rib, c, by omega, b, d, ra, rb, rc⟩
theorem b_cell (hC : JC m H r s) (hM : JM m H r s) (hO : JO H r s) : Both (fX10_cell x1 x2 x3) (fX11_cell x1 x2 x3) m := by
  cases hv : vc H r x1 x2 x3
  · refine ⟨-nI 1, 1, ?_, fun m1 h1 => ?_⟩
    · unfold fX10_cell
      simp (disch := omega) only [fX10_noCell_e hC, hv, cl2_so, cl1_so, ck_tr, zl_0, zl_1, zl_2, zl_3, zl_4, zl_5, zl_6, zl_7, zl_8, zl_9, zl_10, zl_11, zl_12, zl_15, zl_16, zl_20, zl_24, zl_25, zl_30, zl_31, zl_32, zl_33, zl_44, zl_48, zl_50, zl_57, zl_59, zl_60, zl_61, zl_62, zl_63, zl_64, zl_68, zl_97, zl_99, zl_100, zl_104, zl_108, zl_114, zl_120, zl_122, zl_126, zl_132, zl_180, zl_181, zl_186, zl_255, zl_900, zl_930, zl_1000, zl_1000000, nI_add, pk_mul, zs_sub, zs_lt, zs_le, zs_eq, zs_inb, zs_cl, zm_eq, zm_eq2, zm_lt, zm_le, mz_lt, mz_le, mm_eq, zs_bit, zs_or1, zs_div, zs_rem, ck_pos, if_pos, if_neg, true_or, or_true, true_and, and_true, false_or, or_false, false_and, and_false, not_true, not_false_iff, if_true, if_false, eq_self, Bool.false_eq_true, cl2_id, Bool.not_true, Bool.not_false]
      exact ansC_no 1 (Ak.rf m)
    · have hM1 := hM.ag (h1.agC.tr (gd_ak m1).agM)
      unfold fX11_cell fX11_cell_40
      simp (disch := omega) only [gd_e, fX11_isCell_e hM1 hO, hv, cl2_so, cl1_so, ck_tr, zl_0, zl_1, zl_2, zl_3, zl_4, zl_5, zl_6, zl_7, zl_8, zl_9, zl_10, zl_11, zl_12, zl_15, zl_16, zl_20, zl_24, zl_25, zl_30, zl_31, zl_32, zl_33, zl_44, zl_48, zl_50, zl_57, zl_59, zl_60, zl_61, zl_62, zl_63, zl_64, zl_68, zl_97, zl_99, zl_100, zl_104, zl_108, zl_114, zl_120, zl_122, zl_126, zl_132, zl_180, zl_181, zl_186, zl_255, zl_900, zl_930, zl_1000, zl_1000000, nI_add, pk_mul, zs_sub, zs_lt, zs_le, zs_eq, zs_inb, zs_cl, zm_eq, zm_eq2, zm_lt, zm_le, mz_lt, mz_le, mm_eq, zs_bit, zs_or1, zs_div, zs_rem, ck_pos, if_pos, if_neg, true_or, or_true, true_and, and_true, false_or, or_false, false_and, and_false, not_true, not_false_iff, if_true, if_false, eq_self, Bool.false_eq_true, cl2_id, Bool.not_true, Bool.not_false]
      exact ansM_no 1 (gd_ak m1)
  · obtain ⟨rfl, side, rib, c, a, b, d, rfl, rfl, rfl⟩ := vc_out hO hv
    obtain ⟨hr, hs⟩ := hO rfl
    have hf := hr.1
    obtain ⟨f0, f1, f2, f3, f4⟩ := hr.1
    have hx : 30 * side + (3 * rib + c) < 60 := by omega
    have hl := hs.1 _ hx
    have hm : r 1 * rib + c < 30 := by
      have : r 1 * rib ≤ 3 * rib := Nat.mul_le_mul_right _ f3
      omega
    refine ⟨seenV (s (30 * side + (3 * rib + c))), 0, ?_, fun m1 h1 => ?_⟩
    · unfold fX10_cell
      have e1 := (hC.2 rfl).1.1.2.1
      have e2 := (hC.2 rfl).2.1 side rib c a b d
      simp (disch := omega) only [fX10_noCell_e hC, hv, e1, fX5_letterOf_e (by omega) e2, fX10_letterOrBare_e (Nat.lt_of_le_of_lt hl (by decide)), cl2_so, cl1_so, ck_tr, zl_0, zl_1, zl_2, zl_3, zl_4, zl_5, zl_6, zl_7, zl_8, zl_9, zl_10, zl_11, zl_12, zl_15, zl_16, zl_20, zl_24, zl_25, zl_30, zl_31, zl_32, zl_33, zl_44, zl_48, zl_50, zl_57, zl_59, zl_60, zl_61, zl_62, zl_63, zl_64, zl_68, zl_97, zl_99, zl_100, zl_104, zl_108, zl_114, zl_120, zl_122, zl_126, zl_132, zl_180, zl_181, zl_186, zl_255, zl_900, zl_930, zl_1000, zl_1000000, nI_add, pk_mul, zs_sub, zs_lt, zs_le, zs_eq, zs_inb, zs_cl, zm_eq, zm_eq2, zm_lt, zm_le, mz_lt, mz_le, mm_eq, zs_bit, zs_or1, zs_div, zs_rem, ck_pos, if_pos, if_neg, true_or, or_true, true_and, and_true, false_or, or_false, false_and, and_false, not_true, not_false_iff, if_true, if_false, eq_self, Bool.false_eq_true, cl2_id, Bool.not_true, Bool.not_false]
      exact ansC_ok _ (Ak.rf m)
    · have hM1 := hM.ag (h1.agC.tr (gd_ak m1).agM)
      unfold fX11_cell fX11_cell_40
      have e2 := (hM1.2 rfl).2 (30 * side + (3 * rib + c)) (by omega)
      simp (disch := omega) only [gd_e, fX11_isCell_e hM1 hO, hv, Nat.add_assoc, e2, fX11_seenAs_e (Nat.lt_of_le_of_lt hl (by decide)), cl2_so, cl1_so, ck_tr, zl_0, zl_1, zl_2, zl_3, zl_4, zl_5, zl_6, zl_7, zl_8, zl_9, zl_10, zl_11, zl_12, zl_15, zl_16, zl_20, zl_24, zl_25, zl_30, zl_31, zl_32, zl_33, zl_44, zl_48, zl_50, zl_57, zl_59, zl_60, zl_61, zl_62, zl_63, zl_64, zl_68, zl_97, zl_99, zl_100, zl_104, zl_108, zl_114, zl_120, zl_122, zl_126, zl_132, zl_180, zl_181, zl_186, zl_255, zl_900, zl_930, zl_1000, zl_1000000, nI_add, pk_mul, zs_sub, zs_lt, zs_le, zs_eq, zs_inb, zs_cl, zm_eq, zm_eq2, zm_lt, zm_le, mz_lt, mz_le, mm_eq, zs_bit, zs_or1, zs_div, zs_rem, ck_pos, if_pos, if_neg, true_or, or_true, true_and, and_true, false_or, or_false, false_and, and_false, not_true, not_false_iff, if_true, if_false, eq_self, Bool.false_eq_true, cl2_id, Bool.not_true, Bool.not_false]
      exact ansM_ok _ (gd_ak m1) (gd_11 m1)
theorem fX5_lacksRib_e {a k : Nat} (h : m.1 a 1 = nI (s 60)) (hs : s 60 < 1024) (hk : k < 10) : fX5_lacksRib a (nI k) m = some (nI (if (s 60).testBit k then 1 else 0), m) := by
  unfold fX5_lacksRib fX5_lacksRib_16
  cases hb : (s 60).testBit k <;> simp (disch := omega) only [h, hb, cl2_so, cl1_so, ck_tr, zl_0, zl_1, zl_2, zl_3, zl_4, zl_5, zl_6, zl_7, zl_8, zl_9, zl_10, zl_11, zl_12, zl_15, zl_16, zl_20, zl_24, zl_25, zl_30, zl_31, zl_32, zl_33, zl_44, zl_48, zl_50, zl_57, zl_59, zl_60, zl_61, zl_62, zl_63, zl_64, zl_68, zl_97, zl_99, zl_100, zl_104, zl_108, zl_114, zl_120, zl_122, zl_126, zl_132, zl_180, zl_181, zl_186, zl_255, zl_900, zl_930, zl_1000, zl_1000000, nI_add, pk_mul, zs_sub, zs_lt, zs_le, zs_eq, zs_inb, zs_cl, zm_eq, zm_eq2, zm_lt, zm_le, mz_lt, mz_le, mm_eq, zs_bit, zs_or1, zs_div, zs_rem, ck_pos, if_pos, if_neg, true_or, or_true, true_and, and_true, false_or, or_false, false_and, and_false, not_true, not_false_iff, if_true, if_false, eq_self, Bool.false_eq_true, cl2_id, Bool.not_true, Bool.not_false]
theorem KO.s60 (h : KO r s) : s 60 < 1024 := Nat.lt_of_lt_of_le h.2.2.1 (Nat.le_trans (Nat.pow_le_pow_right (by decide) h.1.1.2.1) (by decide))
theorem b_broken (hC : JC m H r s) (hM : JM m H r s) (hO : JO H r s) : Both (fX10_broken x1) (fX11_broken x1) m := by
  cases hv : vN H (r 0) x1
  · refine ⟨-nI 1, 1, ?_, fun m1 h1 => ?_⟩
    · unfold fX10_broken
      simp (disch := omega) only [fX10_noRib_e hC, hv, cl2_so, cl1_so, ck_tr, zl_0, zl_1, zl_2, zl_3, zl_4, zl_5, zl_6, zl_7, zl_8, zl_9, zl_10, zl_11, zl_12, zl_15, zl_16, zl_20, zl_24, zl_25, zl_30, zl_31, zl_32, zl_33, zl_44, zl_48, zl_50, zl_57, zl_59, zl_60, zl_61, zl_62, zl_63, zl_64, zl_68, zl_97, zl_99, zl_100, zl_104, zl_108, zl_114, zl_120, zl_122, zl_126, zl_132, zl_180, zl_181, zl_186, zl_255, zl_900, zl_930, zl_1000, zl_1000000, nI_add, pk_mul, zs_sub, zs_lt, zs_le, zs_eq, zs_inb, zs_cl, zm_eq, zm_eq2, zm_lt, zm_le, mz_lt, mz_le, mm_eq, zs_bit, zs_or1, zs_div, zs_rem, ck_pos, if_pos, if_neg, true_or, or_true, true_and, and_true, false_or, or_false, false_and, and_false, not_true, not_false_iff, if_true, if_false, eq_self, Bool.false_eq_true, cl2_id, Bool.not_true, Bool.not_false]
      exact ansC_no 1 (Ak.rf m)
    · have hM1 := hM.ag (h1.agC.tr (gd_ak m1).agM)
      unfold fX11_broken fX11_broken_39
      simp (disch := omega) only [gd_e, fX11_isRib_e hM1 hO, hv, cl2_so, cl1_so, ck_tr, zl_0, zl_1, zl_2, zl_3, zl_4, zl_5, zl_6, zl_7, zl_8, zl_9, zl_10, zl_11, zl_12, zl_15, zl_16, zl_20, zl_24, zl_25, zl_30, zl_31, zl_32, zl_33, zl_44, zl_48, zl_50, zl_57, zl_59, zl_60, zl_61, zl_62, zl_63, zl_64, zl_68, zl_97, zl_99, zl_100, zl_104, zl_108, zl_114, zl_120, zl_122, zl_126, zl_132, zl_180, zl_181, zl_186, zl_255, zl_900, zl_930, zl_1000, zl_1000000, nI_add, pk_mul, zs_sub, zs_lt, zs_le, zs_eq, zs_inb, zs_cl, zm_eq, zm_eq2, zm_lt, zm_le, mz_lt, mz_le, mm_eq, zs_bit, zs_or1, zs_div, zs_rem, ck_pos, if_pos, if_neg, true_or, or_true, true_and, and_true, false_or, or_false, false_and, and_false, not_true, not_false_iff, if_true, if_false, eq_self, Bool.false_eq_true, cl2_id, Bool.not_true, Bool.not_false]
      exact ansM_no 1 (gd_ak m1)
  · have hH := vN_H hv
    subst hH
    obtain ⟨hr, hs⟩ := hO rfl
    obtain ⟨rib, b, rfl⟩ := vN_in (hr.2.1 0 (by decide)) hv
    obtain ⟨f0, f1, f2, f3, f4⟩ := hr.1
    have h60 := KO.s60 (hO rfl)
    refine ⟨nI (if (s 60).testBit rib then 1 else 0), 0, ?_, fun m1 h1 => ?_⟩
    · unfold fX10_broken fX10_broken_31
      have e := fX5_lacksRib_e (k := rib) (hC.2 rfl).2.2.1 h60 (by omega)
      cases hb : (s 60).testBit rib <;> simp (disch := omega) only [fX10_noRib_e hC, hv, e, hb, cl2_so, cl1_so, ck_tr, zl_0, zl_1, zl_2, zl_3, zl_4, zl_5, zl_6, zl_7, zl_8, zl_9, zl_10, zl_11, zl_12, zl_15, zl_16, zl_20, zl_24, zl_25, zl_30, zl_31, zl_32, zl_33, zl_44, zl_48, zl_50, zl_57, zl_59, zl_60, zl_61, zl_62, zl_63, zl_64, zl_68, zl_97, zl_99, zl_100, zl_104, zl_108, zl_114, zl_120, zl_122, zl_126, zl_132, zl_180, zl_181, zl_186, zl_255, zl_900, zl_930, zl_1000, zl_1000000, nI_add, pk_mul, zs_sub, zs_lt, zs_le, zs_eq, zs_inb, zs_cl, zm_eq, zm_eq2, zm_lt, zm_le, mz_lt, mz_le, mm_eq, zs_bit, zs_or1, zs_div, zs_rem, ck_pos, if_pos, if_neg, true_or, or_true, true_and, and_true, false_or, or_false, false_and, and_false, not_true, not_false_iff, if_true, if_false, eq_self, Bool.false_eq_true, cl2_id, Bool.not_true, Bool.not_false] <;> exact ansC_ok _ (Ak.rf m)
    · have hM1 := hM.ag (h1.agC.tr (gd_ak m1).agM)
      unfold fX11_broken fX11_broken_39
      have e := (hM1.2 rfl).2 60 (by omega)
      have e2 := fX11_has_e (br := s 60) (k := rib) (by omega) (by omega) (gdM m1)
      cases hb : (s 60).testBit rib <;> simp (disch := omega) only [gd_e, fX11_isRib_e hM1 hO, hv, e, e2, hb, cl2_so, cl1_so, ck_tr, zl_0, zl_1, zl_2, zl_3, zl_4, zl_5, zl_6, zl_7, zl_8, zl_9, zl_10, zl_11, zl_12, zl_15, zl_16, zl_20, zl_24, zl_25, zl_30, zl_31, zl_32, zl_33, zl_44, zl_48, zl_50, zl_57, zl_59, zl_60, zl_61, zl_62, zl_63, zl_64, zl_68, zl_97, zl_99, zl_100, zl_104, zl_108, zl_114, zl_120, zl_122, zl_126, zl_132, zl_180, zl_181, zl_186, zl_255, zl_900, zl_930, zl_1000, zl_1000000, nI_add, pk_mul, zs_sub, zs_lt, zs_le, zs_eq, zs_inb, zs_cl, zm_eq, zm_eq2, zm_lt, zm_le, mz_lt, mz_le, mm_eq, zs_bit, zs_or1, zs_div, zs_rem, ck_pos, if_pos, if_neg, true_or, or_true, true_and, and_true, false_or, or_false, false_and, and_false, not_true, not_false_iff, if_true, if_false, eq_self, Bool.false_eq_true, cl2_id, Bool.not_true, Bool.not_false] <;> exact ansM_ok _ (gd_ak m1) (gd_11 m1)
end C1
/-! rows, words -/
def zT (r s : Nat → Nat) (side op br : Nat) : List Nat := (z_show r side op br).map (fun c => s (30 * side + c))
def SYok (w : List Nat) : Prop := 1 ≤ w.length ∧ w.length ≤ 8 ∧ ∀ k, k < w.length → w.getD k 0 < 1000
def rdB (w LT : List Nat) : Nat := if z_rdN w LT = 0 then 0 else 1
def RCl (m : Me) (a : Nat) (C : List Nat) : Prop := m.1 a 2 = nI C.length ∧ ∀ k, k < C.length → m.1 (a + 1) k = nI (C.getD k 0)
section C2
variable {m : Me} {t : Nat} {r s : Nat → Nat}
theorem zT_len (side op br : Nat) : (zT r s side op br).length = (z_show r side op br).length := by simp [zT]
theorem zT_30 (h : KO r s) {side op : Nat} (br : Nat) (ho : op ≤ z_mo r) : (zT r s side op br).length ≤ 30 := by
  rw [zT_len]; exact z_show_len h.1.1 ho
theorem zT_at {side op br k : Nat} (hk : k < (z_show r side op br).length) : (zT r s side op br).getD k 0 = s (30 * side + (z_show r side op br).getD k 0) := getD_map0 hk
theorem zT_25 (h : KO r s) {side op : Nat} (br : Nat) (hs : side ≤ 1) (ho : op ≤ z_mo r) {k : Nat} (hk : k < (zT r s side op br).length) : (zT r s side op br).getD k 0 ≤ 25 := by
  rw [zT_len] at hk
  rw [zT_at hk]
  have := z_show_lt h.1.1 ho _ (getD_mem0 hk)
  exact h.2.1 _ (by omega)
theorem kd7_in {a : Nat} (h : kd a = 7) : 88 ≤ a ∧ a + 2 ≤ 93 ∨ 96 ≤ a ∧ a + 2 ≤ 131 := kd_all (k := 7) (P := fun a => 88 ≤ a ∧ a + 2 ≤ 93 ∨ 96 ≤ a ∧ a + 2 ≤ 131) (by decide) (by decide +kernel) h
theorem ak_row {a : Nat} (ha : kd a = 7) (C LT : List Nat) : Ak sC m (rowM m a C LT) := (Ak.rf m).row C LT (sC_in (by have := kd7_in ha; omega)) (sC_in (by have := kd7_in ha; omega)) (sC_in (by have := kd7_in ha; omega))
theorem KC.look (h : KC m t r s) (hO : KO r s) {a side op br : Nat} (ha : kd a = 7) (hs : side ≤ 1) (ho : op ≤ z_mo r) (hb : br < 1024) : ∃ m', fX7_look a t 81 (nI br) (nI side) (nI op) m = some m' ∧ Ak sC m m' ∧ KC m' t r s ∧ RLt m' a (zT r s side op br) ∧ RCl m' a ((z_show r side op br).map (z_cc r)) ∧ (∀ b k, b ≠ a → b ≠ a + 1 → b ≠ a + 2 → m'.1 b k = m.1 b k) ∧ m'.2 = m.2 := by
  have e := fX7_look_e ha h.2.1 (show kd 81 = 5 by decide) hO.1.1 h.2.2.1.1 h.2.2.2.1.1 hs ho (br := br) (by omega)
  refine ⟨_, e, ak_row ha _ _, h.ag hO (ak_row ha _ _).agC, ⟨?_, fun k hk => rowM_let hk⟩, ⟨rowM_len _ _ _ _, fun k hk => rowM_cell hk⟩, fun b k h0 h1 h2 => rowM_na h0 h1 h2, rfl⟩
  rw [rowM_len]
  simp [zT]
theorem KC.lookAt (h : KC m t r s) (hO : KO r s) {side op : Nat} (hs : side ≤ 1) (ho : op ≤ z_mo r) : ∃ m', fX10_lookAt (nI side) (nI op) m = some m' ∧ Ak sC m m' ∧ KC m' t r s ∧ RLt m' 88 (zT r s side op (s 60)) ∧ RCl m' 88 ((z_show r side op (s 60)).map (z_cc r)) := by
  obtain ⟨m', e, h1, h2, h3, h4, -⟩ := h.look hO (a := 88) (br := s 60) (by decide) hs ho hO.s60
  refine ⟨m', ?_, h1, h2, h3, h4⟩
  unfold fX10_lookAt
  rw [h.1, h.2.2.2.1.2.1, e]
  rfl
theorem z_word_len (w : Nat) : (z_word r w).length = r (10 + w) := z_w_len _ _ _
theorem z_wish_len (w : Nat) : (z_wish r w).length = r (64 + w) := z_w_len _ _ _
theorem z_seen_len (w : Nat) : (z_seen r w).length = r (126 + w) := z_w_len _ _ _
theorem word_ok (h : OKr r) {w : Nat} (hw : w < r 5) : SYok (z_word r w) := by
  obtain ⟨a, b, c⟩ := h.2.2.2.2.2.2.2.1 w hw
  unfold SYok
  rw [z_word_len]
  exact ⟨a, b, fun k hk => by unfold z_word; rw [z_w_at hk]; have := c k hk; omega⟩
theorem wish_ok (h : OKr r) {w : Nat} (hw : w < r 6) : SYok (z_wish r w) := by
  obtain ⟨a, b, -, -, c⟩ := h.2.2.2.2.2.2.2.2.1 w hw
  unfold SYok
  rw [z_wish_len]
  exact ⟨a, b, fun k hk => by unfold z_wish; rw [z_w_at hk]; have := c k hk; omega⟩
theorem seen_ok (h : OKr r) {w : Nat} (hw : w < r 7) : SYok (z_seen r w) := by
  obtain ⟨a, b, -, -, -, c⟩ := h.2.2.2.2.2.2.2.2.2.1 w hw
  unfold SYok
  rw [z_seen_len]
  exact ⟨a, b, fun k hk => by unfold z_seen; rw [z_w_at hk]; have := c k hk; omega⟩
theorem SY.ak {m' : Me} {a : Nat} {w : List Nat} (h : SY m a w) (hA : Ak sC m m') (h1 : 1 ≤ a) (h2 : a ≤ 86) : SY m' a w := h.ag hA.agC h1 h2
theorem KC.isRead (h : KC m t r s) (hO : KO r s) {a side op br : Nat} {w : List Nat} (hw : SYok w) (hS : SY m a w) (ha : 1 ≤ a ∧ a ≤ 86) (hs : side ≤ 1) (ho : op ≤ z_mo r) (hb : br < 1024) : ∃ m', fX10_isReadIf (nI br) a (nI side) (nI op) m = some (nI (rdB w (zT r s side op br)), m') ∧ Ak sC m m' ∧ KC m' t r s := by
  obtain ⟨m', e, h1, h2, h3, h4⟩ := h.look hO (a := 88) (br := br) (by decide) hs ho hb
  refine ⟨m', ?_, h1, h2⟩
  unfold fX10_isReadIf
  rw [h.1, e, cl1_so]
  rw [cl2_e (fX7_isRead_e h3 (hS.ak h1 ha.1 ha.2) hw.2.1 hw.1 (zT_30 hO br ho) hw.2.2 (fun k hk => by have := zT_25 hO br hs ho hk; omega))]
  unfold rdB
  by_cases hq : z_rdN w (zT r s side op br) = 0 <;> simp (disch := omega) only [hq, cl2_so, cl1_so, ck_tr, zl_0, zl_1, zl_2, zl_3, zl_4, zl_5, zl_6, zl_7, zl_8, zl_9, zl_10, zl_11, zl_12, zl_15, zl_16, zl_20, zl_24, zl_25, zl_30, zl_31, zl_32, zl_33, zl_44, zl_48, zl_50, zl_57, zl_59, zl_60, zl_61, zl_62, zl_63, zl_64, zl_68, zl_97, zl_99, zl_100, zl_104, zl_108, zl_114, zl_120, zl_122, zl_126, zl_132, zl_180, zl_181, zl_186, zl_255, zl_900, zl_930, zl_1000, zl_1000000, nI_add, pk_mul, zs_sub, zs_lt, zs_le, zs_eq, zs_inb, zs_cl, zm_eq, zm_eq2, zm_lt, zm_le, mz_lt, mz_le, mm_eq, zs_bit, zs_or1, zs_div, zs_rem, ck_pos, if_pos, if_neg, true_or, or_true, true_and, and_true, false_or, or_false, false_and, and_false, not_true, not_false_iff, if_true, if_false, eq_self, Bool.false_eq_true, cl2_id, Bool.not_true, Bool.not_false]
theorem KM.lay (h : KM m r s) (hO : KO r s) {side op br : Nat} (hs : side ≤ 1) (ho : op ≤ z_mo r) (hb : br < 1024) : fX11_lay 141 (nI side) (nI op) (nI br) m = some (nI (z_show r side op br).length, wl m 147 0 (z_show r side op br)) := fX11_lay_e (Or.inl rfl) h.2.1 hO.1.1 hs ho (by omega)
theorem KM.layNow (h : KM m r s) (hO : KO r s) {side op : Nat} (hs : side ≤ 1) (ho : op ≤ z_mo r) : fX11_layNow (nI side) (nI op) m = some (nI (z_show r side op (s 60)).length, wl m 147 0 (z_show r side op (s 60))) := by
  unfold fX11_layNow
  rw [h.2.2 60 (by decide), h.lay hO hs ho hO.s60]
  rfl
theorem ak_146 (l : List Nat) : Ak sN m (wl m 147 0 l) := (Ak.rf m).wl l (sN_in (by omega))
theorem ML_wl (l : List Nat) : ML146 (wl m 147 0 l) l := fun k hk => wl_at hk
theorem KM.mostOpen (h : KM m r s) (hO : KO r s) : fX11_mostOpen 141 m = some (nI (z_mo r), m) := fX11_mostOpen_e (Or.inl rfl) h.2.1 ⟨hO.1.1.2.2.2.1, hO.1.1.2.1, by have := hO.1.1.1; omega, hO.1.1.2.2.2.2⟩
theorem KM.reads (h : KM m r s) (hO : KO r s) {side op br fr many : Nat} (hs : side ≤ 1) (ho : op ≤ z_mo r) (hb : br < 1024) (hfr : fr + many ≤ 186) : ∃ m', fX11_readsOf (nI fr) (nI many) (nI side) (nI op) (nI br) m = some (nI (z_rdN (z_w r fr many) (zT r s side op br)), m') ∧ Ak sN m m' ∧ KM m' r s ∧ m'.1 138 25 = z_oi (z_rdF (z_w r fr many) (zT r s side op br)) := by
  have e := fX11_readsOf_e h.2.1 h.2.2 hO.1.1 hs ho (br := br) (by omega) hfr (fun k hk => hO.1.2.1 _ (by omega)) (fun k hk => by have := hO.2.1 k hk; omega)
  have hA : Ak sN m (setI (wl m 147 0 (z_show r side op br)) 138 25 (z_oi (z_rdF (z_w r fr many) (zT r s side op br)))) := (ak_146 _).set _ (by decide)
  exact ⟨_, e, hA, h.ag hA.agN, sI_eq _ _ _ _⟩
theorem KM.readsWord (h : KM m r s) (hO : KO r s) {w side op : Nat} (hw : w < r 5) (hs : side ≤ 1) (ho : op ≤ z_mo r) : ∃ m', fX11_readsWord (nI w) (nI side) (nI op) m = some (nI (z_rdN (z_word r w) (zT r s side op (s 60))), m') ∧ Ak sN m m' ∧ KM m' r s ∧ m'.1 138 25 = z_oi (z_rdF (z_word r w) (zT r s side op (s 60))) := by
  have h5 := hO.1.2.2.2.1
  have h8 := (hO.1.2.2.2.2.2.2.2.1 w hw).2.1
  obtain ⟨m', e, h1, h2, h3⟩ := h.reads hO (fr := 16 + 8 * w) (many := r (10 + w)) (br := s 60) hs ho hO.s60 (by omega)
  refine ⟨m', ?_, h1, h2, h3⟩
  unfold fX11_readsWord
  have e1 := h.2.1 (10 + w) (by omega)
  have e2 := h.2.2 60 (by omega)
  simp (disch := omega) only [e1, e2, e, cl2_so, cl1_so, ck_tr, zl_0, zl_1, zl_2, zl_3, zl_4, zl_5, zl_6, zl_7, zl_8, zl_9, zl_10, zl_11, zl_12, zl_15, zl_16, zl_20, zl_24, zl_25, zl_30, zl_31, zl_32, zl_33, zl_44, zl_48, zl_50, zl_57, zl_59, zl_60, zl_61, zl_62, zl_63, zl_64, zl_68, zl_97, zl_99, zl_100, zl_104, zl_108, zl_114, zl_120, zl_122, zl_126, zl_132, zl_180, zl_181, zl_186, zl_255, zl_900, zl_930, zl_1000, zl_1000000, nI_add, pk_mul, zs_sub, zs_lt, zs_le, zs_eq, zs_inb, zs_cl, zm_eq, zm_eq2, zm_lt, zm_le, mz_lt, mz_le, mm_eq, zs_bit, zs_or1, zs_div, zs_rem, ck_pos, if_pos, if_neg, true_or, or_true, true_and, and_true, false_or, or_false, false_and, and_false, not_true, not_false_iff, if_true, if_false, eq_self, Bool.false_eq_true, cl2_id, Bool.not_true, Bool.not_false]
  rfl
end C2
