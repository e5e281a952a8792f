/-! feed, fault, where, size, trouble -/
def bz (y : Int32) : Nat := y.toBitVec.toNat % 256
theorem bz_lt (y : Int32) : bz y < 256 := Nat.mod_lt _ (by decide)
theorem bz_and (y : Int32) : (y &&& nI 255) = nI (bz y) := by
  apply Int32.toBitVec_inj.mp
  show y.toBitVec &&& BitVec.ofNat 32 255 = BitVec.ofNat 32 (y.toBitVec.toNat % 256)
  apply BitVec.eq_of_toNat_eq
  rw [BitVec.toNat_and, BitVec.toNat_ofNat, BitVec.toNat_ofNat]
  have h := Nat.and_two_pow_sub_one_eq_mod y.toBitVec.toNat 8
  have e1 : 255 % 2 ^ 32 = 2 ^ 8 - 1 := by decide
  rw [e1, h]
  omega
theorem bz_by8 (y : Int32) : y.toInt8.toInt32 = by8 (bz y) := by
  apply Int32.toInt_inj.mp
  rw [Int8.toInt_toInt32, Int32.toInt_toInt8]
  have h' : y.toInt = y.toBitVec.toInt := rfl
  rw [h', BitVec.toInt_eq_toNat_cond y.toBitVec]
  have hlt := y.toBitVec.isLt
  unfold bz
  generalize y.toBitVec.toNat = n at *
  unfold by8
  by_cases q : n % 256 < 128
  · rw [if_pos q, nI_toInt (by omega), Int.bmod_def]
    split <;> split <;> omega
  · have e : (nI (n % 256) - nI 256).toInt = ((n % 256 : Nat) : Int) - 256 := by
      rw [Int32.toInt_sub, nI_toInt (by omega), nI_toInt (by omega), Int.bmod_eq_of_le (by omega) (by omega)]
      rfl
    rw [if_neg q, e, Int.bmod_def]
    split <;> split <;> omega
theorem t88 (x : Int32) : x.toInt8.toInt32.toInt8.toInt32 = x.toInt8.toInt32 := by simp
/-- only the tape has changed -/
theorem WI.tape {m m' : Me} (hI : Inv m) (hW : WI m) (e : ∀ a j, ¬ (a = 0 ∧ j = 2) → a ≠ 2 → ¬ (a = 138 ∧ (j = 0 ∨ j = 2)) → a ≠ 139 → m'.1 a j = m.1 a j) (e2 : m'.2 = m.2) (hT' : ∀ L b, TP m L b → ∃ L' b', TP m' L' b') : WI m' := by
  obtain ⟨H, r, s, T, L, b, U, ss, A, im, ⟨hC, hM, hO, hS⟩, hF, hT, hU, hA, hN, hD⟩ := hW
  obtain ⟨L', b', hT''⟩ := hT' L b hT
  have e' : ∀ a j, ((a = 0 ∧ j ≠ 2) ∨ a = 1 ∨ (3 ≤ a ∧ a ≤ 137) ∨ (a = 138 ∧ (j = 9 ∨ j = 10 ∨ j = 11 ∨ j = 14 ∨ j = 21 ∨ j = 22)) ∨ (140 ≤ a ∧ a ≤ 146)) → m'.1 a j = m.1 a j := fun a j q => e a j (by omega) (by omega) (by omega) (by omega)
  have hr : rr m' 0 3 = rr m 0 3 := by
    unfold Jvm.Pilot.CFanPartsLaw_law_r1864_615eae.rr
    rw [e2]
  have ht := kd2_two (ivT hI).2
  obtain ⟨t0, t1, t2, t3, t4⟩ := hF
  refine ⟨H, r, s, T, L', b', U, ss, A, im, ⟨⟨(e' 0 4 (by omega)).trans hC.1, fun q => ⟨?_, (hC.2 q).2.cg (fun a j z => e' a j (by omega))⟩⟩, hM.cg (fun a j q => e' a j (by omega)), hO, fun q => (hS q).cg (fun a j _ _ => e' a j (by omega))⟩, ⟨t0, (e' 0 16 (by omega)).trans t1, (e' 138 11 (by omega)).trans t2, ?_, fun q => ?_⟩, hT'', hU.cg (fun a j q => e' a j (by omega)), hA.cg (fun a j q => e' a j (by omega)), fun q => ?_, dj_of hD (fun a j _ => by rw [e2])⟩
  · rw [hr]
    exact (hC.2 q).1.cg (hO q).1 (fun a j x y => e' a j (by omega))
  · rw [e' 138 9 (by omega), e' 1 8 (by omega)]
    exact t3
  · rw [e' 138 10 (by omega), e' 1 9 (by omega)]
    exact t4 q
  · obtain ⟨q1, q2, q3⟩ := hN q
    exact ⟨q1, q2, q3.cg (ivT hI).2 (fun a j q => e' a j (by omega)) (by rw [e2])⟩
theorem WI.th {m : Me} (hI : Inv m) (hW : WI m) (v : Int32) : WI (setI m 138 0 v) := hW.tape hI (fun a j _ _ h _ => (sI_1 _ _ _ _ _ _).trans (if_neg (by omega))) rfl (fun L b hT => ⟨L, b, hT.cg (fun a j q => (sI_1 _ _ _ _ _ _).trans (if_neg (by omega)))⟩)
section TAPE
variable {m : Me} {x1 x2 x3 x4 x5 : Int32}
theorem ap_s {L : Nat} (h : m.1 0 2 = nI L) (hL : L < 900) (n : Nat) (x sh : Int32) (hs : ¬ sh < 0) : fX10_append_3 (n + 1) x sh m = fX10_append_3 n x (sh + -8) (setI (setI m 2 L ((x >>> (sh &&& 31)).toInt8.toInt32)) 0 2 (nI (L + 1))) := by
  have c1 : (setI m 2 L ((x >>> (sh &&& 31)).toInt8.toInt32)).1 0 2 = nI L := (sI_na (by decide)).trans h
  rw [fX10_append_3, if_neg hs, h]
  unfold fX10_append_49
  rw [t88]
  have i1 : ¬ nI L < (0 : Int32) := by rw [zl_0, zs_lt (by omega) (by omega)]; omega
  have i2 : ¬ (900 : Int32) ≤ nI L := by rw [zl_900, zs_le (by omega) (by omega)]; omega
  have i3 : inb (nI L) 900 := (zs_inb (by omega)).mpr hL
  rw [if_neg i1, if_neg i2, ck_pos i3, zs_cl (by omega), c1, zl_1, nI_add]
theorem ap_e {L : Nat} (h : m.1 0 2 = nI L) (hL : L + 4 ≤ 900) (x : Int32) : ∃ m', fX10_append x m = some m' ∧ m'.2 = m.2 ∧ (∀ a j, ¬ (a = 0 ∧ j = 2) → a ≠ 2 → m'.1 a j = m.1 a j) ∧ m'.1 0 2 = nI (L + 4) ∧ (∀ j, j < L → m'.1 2 j = m.1 2 j) ∧ ∀ q, q < 4 → m'.1 2 (L + q) = (x >>> (nI (24 - 8 * q) &&& nI 31)).toInt8.toInt32 := by
  have s1 := ap_s h (by omega) 1999 x 24 (by decide)
  have s2 := ap_s (m := setI (setI m 2 L ((x >>> ((24 : Int32) &&& 31)).toInt8.toInt32)) 0 2 (nI (L + 1))) (L := L + 1) (sI_eq _ _ _ _) (by omega) 1998 x 16 (by decide)
  have s3 := ap_s (m := setI (setI (setI (setI m 2 L ((x >>> ((24 : Int32) &&& 31)).toInt8.toInt32)) 0 2 (nI (L + 1))) 2 (L + 1) ((x >>> ((16 : Int32) &&& 31)).toInt8.toInt32)) 0 2 (nI (L + 1 + 1))) (L := L + 1 + 1) (sI_eq _ _ _ _) (by omega) 1997 x 8 (by decide)
  have s4 := ap_s (m := setI (setI (setI (setI (setI (setI m 2 L ((x >>> ((24 : Int32) &&& 31)).toInt8.toInt32)) 0 2 (nI (L + 1))) 2 (L + 1) ((x >>> ((16 : Int32) &&& 31)).toInt8.toInt32)) 0 2 (nI (L + 1 + 1))) 2 (L + 1 + 1) ((x >>> ((8 : Int32) &&& 31)).toInt8.toInt32)) 0 2 (nI (L + 1 + 1 + 1))) (L := L + 1 + 1 + 1) (sI_eq _ _ _ _) (by omega) 1996 x 0 (by decide)
  have s5 : ∀ mm : Me, fX10_append_3 1996 x (0 + -8) mm = some mm := fun mm => by
    rw [show (1996 : Nat) = 1995 + 1 from rfl, fX10_append_3, if_pos (by decide)]
  refine ⟨_, s1.trans (s2.trans (s3.trans (s4.trans (s5 _)))), rfl, fun a j q1 q2 => ?_, sI_eq _ _ _ _, fun j hj => ?_, fun q hq => ?_⟩
  · rw [sI_1, if_neg q1, sI_na q2, sI_1, if_neg q1, sI_na q2, sI_1, if_neg q1, sI_na q2, sI_1, if_neg q1, sI_na q2]
  · rw [sI_na (by decide), sI_nj (by omega), sI_na (by decide), sI_nj (by omega), sI_na (by decide), sI_nj (by omega), sI_na (by decide), sI_nj (by omega)]
  · have hq4 : q = 0 ∨ q = 1 ∨ q = 2 ∨ q = 3 := by omega
    rcases hq4 with rfl | rfl | rfl | rfl
    · rw [sI_na (by decide), sI_nj (by omega), sI_na (by decide), sI_nj (by omega), sI_na (by decide), sI_nj (by omega), sI_na (by decide), Nat.add_zero, sI_eq]
      rfl
    · rw [sI_na (by decide), sI_nj (by omega), sI_na (by decide), sI_nj (by omega), sI_na (by decide), sI_eq]
      rfl
    · rw [sI_na (by decide), sI_nj (by omega), sI_na (by decide), sI_eq]
      rfl
    · rw [sI_na (by decide), sI_eq]
      rfl
def wdf (x1 x2 x3 x4 x5 : Int32) (k : Nat) : Int32 := if k < 4 then x1 else if k < 8 then x2 else if k < 12 then x3 else if k < 16 then x4 else x5
def yf (x1 x2 x3 x4 x5 : Int32) (k : Nat) : Int32 := wdf x1 x2 x3 x4 x5 k >>> (nI (24 - 8 * (k - k / 4 * 4)) &&& nI 31)
theorem fd76 {q n : Nat} (hq : q < 20) : fX11_feed_23 (n + 1) x1 x2 x3 x4 x5 (nI q) m = fX11_feed_76 (fX11_feed_23 n) x1 x2 x3 x4 x5 (nI q) (wdf x1 x2 x3 x4 x5 q) m := by
  rw [fX11_feed_23]
  unfold wdf
  by_cases q1 : q < 4
  · simp (disch := omega) only [q1, cl2_so, cl1_so, ck_tr, zl_0, zl_1, zl_2, zl_3, zl_4, zl_5, zl_6, zl_7, zl_8, zl_9, zl_10, zl_11, zl_12, zl_15, zl_16, zl_20, zl_24, zl_25, zl_30, zl_31, zl_32, zl_33, zl_44, zl_48, zl_50, zl_57, zl_59, zl_60, zl_61, zl_62, zl_63, zl_64, zl_68, zl_97, zl_99, zl_100, zl_104, zl_108, zl_114, zl_120, zl_122, zl_126, zl_132, zl_180, zl_181, zl_186, zl_255, zl_900, zl_930, zl_1000, zl_1000000, nI_add, pk_mul, zs_sub, zs_lt, zs_le, zs_eq, zs_inb, zs_cl, zm_eq, zm_eq2, zm_lt, zm_le, mz_lt, mz_le, mm_eq, zs_bit, zs_or1, zs_div, zs_rem, ck_pos, if_pos, if_neg, true_or, or_true, true_and, and_true, false_or, or_false, false_and, and_false, not_true, not_false_iff, if_true, if_false, eq_self, Bool.false_eq_true, cl2_id, Bool.not_true, Bool.not_false]
  · by_cases q2 : q < 8
    · simp (disch := omega) only [q1, q2, cl2_so, cl1_so, ck_tr, zl_0, zl_1, zl_2, zl_3, zl_4, zl_5, zl_6, zl_7, zl_8, zl_9, zl_10, zl_11, zl_12, zl_15, zl_16, zl_20, zl_24, zl_25, zl_30, zl_31, zl_32, zl_33, zl_44, zl_48, zl_50, zl_57, zl_59, zl_60, zl_61, zl_62, zl_63, zl_64, zl_68, zl_97, zl_99, zl_100, zl_104, zl_108, zl_114, zl_120, zl_122, zl_126, zl_132, zl_180, zl_181, zl_186, zl_255, zl_900, zl_930, zl_1000, zl_1000000, nI_add, pk_mul, zs_sub, zs_lt, zs_le, zs_eq, zs_inb, zs_cl, zm_eq, zm_eq2, zm_lt, zm_le, mz_lt, mz_le, mm_eq, zs_bit, zs_or1, zs_div, zs_rem, ck_pos, if_pos, if_neg, true_or, or_true, true_and, and_true, false_or, or_false, false_and, and_false, not_true, not_false_iff, if_true, if_false, eq_self, Bool.false_eq_true, cl2_id, Bool.not_true, Bool.not_false]
    · by_cases q3 : q < 12
      · simp (disch := omega) only [q1, q2, q3, cl2_so, cl1_so, ck_tr, zl_0, zl_1, zl_2, zl_3, zl_4, zl_5, zl_6, zl_7, zl_8, zl_9, zl_10, zl_11, zl_12, zl_15, zl_16, zl_20, zl_24, zl_25, zl_30, zl_31, zl_32, zl_33, zl_44, zl_48, zl_50, zl_57, zl_59, zl_60, zl_61, zl_62, zl_63, zl_64, zl_68, zl_97, zl_99, zl_100, zl_104, zl_108, zl_114, zl_120, zl_122, zl_126, zl_132, zl_180, zl_181, zl_186, zl_255, zl_900, zl_930, zl_1000, zl_1000000, nI_add, pk_mul, zs_sub, zs_lt, zs_le, zs_eq, zs_inb, zs_cl, zm_eq, zm_eq2, zm_lt, zm_le, mz_lt, mz_le, mm_eq, zs_bit, zs_or1, zs_div, zs_rem, ck_pos, if_pos, if_neg, true_or, or_true, true_and, and_true, false_or, or_false, false_and, and_false, not_true, not_false_iff, if_true, if_false, eq_self, Bool.false_eq_true, cl2_id, Bool.not_true, Bool.not_false]
      · by_cases q4 : q < 16
        · simp (disch := omega) only [q1, q2, q3, q4, cl2_so, cl1_so, ck_tr, zl_0, zl_1, zl_2, zl_3, zl_4, zl_5, zl_6, zl_7, zl_8, zl_9, zl_10, zl_11, zl_12, zl_15, zl_16, zl_20, zl_24, zl_25, zl_30, zl_31, zl_32, zl_33, zl_44, zl_48, zl_50, zl_57, zl_59, zl_60, zl_61, zl_62, zl_63, zl_64, zl_68, zl_97, zl_99, zl_100, zl_104, zl_108, zl_114, zl_120, zl_122, zl_126, zl_132, zl_180, zl_181, zl_186, zl_255, zl_900, zl_930, zl_1000, zl_1000000, nI_add, pk_mul, zs_sub, zs_lt, zs_le, zs_eq, zs_inb, zs_cl, zm_eq, zm_eq2, zm_lt, zm_le, mz_lt, mz_le, mm_eq, zs_bit, zs_or1, zs_div, zs_rem, ck_pos, if_pos, if_neg, true_or, or_true, true_and, and_true, false_or, or_false, false_and, and_false, not_true, not_false_iff, if_true, if_false, eq_self, Bool.false_eq_true, cl2_id, Bool.not_true, Bool.not_false]
        · simp (disch := omega) only [q1, q2, q3, q4, cl2_so, cl1_so, ck_tr, zl_0, zl_1, zl_2, zl_3, zl_4, zl_5, zl_6, zl_7, zl_8, zl_9, zl_10, zl_11, zl_12, zl_15, zl_16, zl_20, zl_24, zl_25, zl_30, zl_31, zl_32, zl_33, zl_44, zl_48, zl_50, zl_57, zl_59, zl_60, zl_61, zl_62, zl_63, zl_64, zl_68, zl_97, zl_99, zl_100, zl_104, zl_108, zl_114, zl_120, zl_122, zl_126, zl_132, zl_180, zl_181, zl_186, zl_255, zl_900, zl_930, zl_1000, zl_1000000, nI_add, pk_mul, zs_sub, zs_lt, zs_le, zs_eq, zs_inb, zs_cl, zm_eq, zm_eq2, zm_lt, zm_le, mz_lt, mz_le, mm_eq, zs_bit, zs_or1, zs_div, zs_rem, ck_pos, if_pos, if_neg, true_or, or_true, true_and, and_true, false_or, or_false, false_and, and_false, not_true, not_false_iff, if_true, if_false, eq_self, Bool.false_eq_true, cl2_id, Bool.not_true, Bool.not_false]
theorem fd23 {L : Nat} (hL : L + 20 ≤ 900) : ∀ j q n (m : Me), q + j = 20 → j < n → m.1 138 2 = nI (L + q) → ∃ m', fX11_feed_23 n x1 x2 x3 x4 x5 (nI q) m = some (nI (L + 20), m') ∧ m'.2 = m.2 ∧ (∀ a k, ¬ (a = 138 ∧ k = 2) → a ≠ 139 → m'.1 a k = m.1 a k) ∧ m'.1 138 2 = nI (L + 20) ∧ (∀ k, k < L + q → m'.1 139 k = m.1 139 k) ∧ ∀ k, q ≤ k → k < 20 → m'.1 139 (L + k) = nI (bz (yf x1 x2 x3 x4 x5 k)) := by
  intro j
  induction j with
  | zero =>
    intro q n m hq hn h
    obtain ⟨n, rfl⟩ : ∃ n', n = n' + 1 := ⟨n - 1, by omega⟩
    obtain rfl : q = 20 := by omega
    refine ⟨m, ?_, rfl, fun _ _ _ _ => rfl, h, fun _ _ => rfl, fun k h1 h2 => absurd h1 (by omega)⟩
    rw [fX11_feed_23]
    simp (disch := omega) only [h, cl2_so, cl1_so, ck_tr, zl_0, zl_1, zl_2, zl_3, zl_4, zl_5, zl_6, zl_7, zl_8, zl_9, zl_10, zl_11, zl_12, zl_15, zl_16, zl_20, zl_24, zl_25, zl_30, zl_31, zl_32, zl_33, zl_44, zl_48, zl_50, zl_57, zl_59, zl_60, zl_61, zl_62, zl_63, zl_64, zl_68, zl_97, zl_99, zl_100, zl_104, zl_108, zl_114, zl_120, zl_122, zl_126, zl_132, zl_180, zl_181, zl_186, zl_255, zl_900, zl_930, zl_1000, zl_1000000, nI_add, pk_mul, zs_sub, zs_lt, zs_le, zs_eq, zs_inb, zs_cl, zm_eq, zm_eq2, zm_lt, zm_le, mz_lt, mz_le, mm_eq, zs_bit, zs_or1, zs_div, zs_rem, ck_pos, if_pos, if_neg, true_or, or_true, true_and, and_true, false_or, or_false, false_and, and_false, not_true, not_false_iff, if_true, if_false, eq_self, Bool.false_eq_true, cl2_id, Bool.not_true, Bool.not_false]
  | succ j ih =>
    intro q n m hq hn h
    obtain ⟨n, rfl⟩ : ∃ n', n = n' + 1 := ⟨n - 1, by omega⟩
    have c1 : (setI m 139 (L + q) (nI (bz (yf x1 x2 x3 x4 x5 q)))).1 138 2 = nI (L + q) := (sI_na (by decide)).trans h
    obtain ⟨m', e, i1, i2, i3, i4, i5⟩ := ih (q + 1) n (setI (setI m 139 (L + q) (nI (bz (yf x1 x2 x3 x4 x5 q)))) 138 2 (nI (L + q + 1))) (by omega) (by omega) (sI_eq _ _ _ _)
    refine ⟨m', ?_, i1, fun a k z1 z2 => ?_, i3, fun k hk => ?_, fun k h1 h2 => ?_⟩
    · rw [fd76 (by omega)]
      unfold fX11_feed_76
      have ey : (wdf x1 x2 x3 x4 x5 q >>> (nI (24 - 8 * (q - q / 4 * 4)) &&& nI 31)) &&& nI 255 = nI (bz (yf x1 x2 x3 x4 x5 q)) := bz_and _
      simp (disch := omega) only [h, ey, c1, cl2_so, cl1_so, ck_tr, zl_0, zl_1, zl_2, zl_3, zl_4, zl_5, zl_6, zl_7, zl_8, zl_9, zl_10, zl_11, zl_12, zl_15, zl_16, zl_20, zl_24, zl_25, zl_30, zl_31, zl_32, zl_33, zl_44, zl_48, zl_50, zl_57, zl_59, zl_60, zl_61, zl_62, zl_63, zl_64, zl_68, zl_97, zl_99, zl_100, zl_104, zl_108, zl_114, zl_120, zl_122, zl_126, zl_132, zl_180, zl_181, zl_186, zl_255, zl_900, zl_930, zl_1000, zl_1000000, nI_add, pk_mul, zs_sub, zs_lt, zs_le, zs_eq, zs_inb, zs_cl, zm_eq, zm_eq2, zm_lt, zm_le, mz_lt, mz_le, mm_eq, zs_bit, zs_or1, zs_div, zs_rem, ck_pos, if_pos, if_neg, true_or, or_true, true_and, and_true, false_or, or_false, false_and, and_false, not_true, not_false_iff, if_true, if_false, eq_self, Bool.false_eq_true, cl2_id, Bool.not_true, Bool.not_false]
      exact e
    · rw [i2 a k z1 z2, sI_1, if_neg z1, sI_na z2]
    · rw [i4 k (by omega), sI_na (by decide), sI_nj (by omega)]
    · by_cases z : k = q
      · subst z
        rw [i4 (L + k) (by omega), sI_na (by decide), sI_eq]
      · exact i5 k (by omega) h2
theorem t_feed (hI : Inv m) (hW : WI m) : Two (fX10_feed x1 x2 x3 x4 x5) (fX11_feed x1 x2 x3 x4 x5) m := by
  obtain ⟨H, r, s, T, L, b, U, ss, A, im, hJ, hF, hT, hU, hA, hN, hD⟩ := id hW
  obtain ⟨h1, h2, h3, h4⟩ := id hT
  by_cases hL : L + 20 ≤ 900
  · obtain ⟨ma, ea, a1, a2, a3, a4, a5⟩ := ap_e h2 (by omega) x1
    obtain ⟨mb, eb, b1, b2, b3, b4, b5⟩ := ap_e a3 (by omega) x2
    obtain ⟨mc, ec, c1, c2, c3, c4, c5⟩ := ap_e b3 (by omega) x3
    obtain ⟨md, ed, d1, d2, d3, d4, d5⟩ := ap_e c3 (by omega) x4
    obtain ⟨me, ee, e1, e2, e3, e4, e5⟩ := ap_e d3 (by omega) x5
    have k1 : ∀ a j, ¬ (a = 0 ∧ j = 2) → a ≠ 2 → me.1 a j = m.1 a j := fun a j q1 q2 => (e2 a j q1 q2).trans ((d2 a j q1 q2).trans ((c2 a j q1 q2).trans ((b2 a j q1 q2).trans (a2 a j q1 q2))))
    have k2 : (setI me 138 0 (nI 0)).1 138 2 = nI (L + 0) := (sI_nj (by decide)).trans ((k1 138 2 (by omega) (by omega)).trans h3)
    obtain ⟨mf, ef, f1, f2, f3, f4, f5⟩ := fd23 (x1 := x1) (x2 := x2) (x3 := x3) (x4 := x4) (x5 := x5) hL 20 0 FU (setI me 138 0 (nI 0)) (by omega) (FU_pos (by omega)) k2
    have e3' : me.1 0 2 = nI (L + 20) := e3
    refine ⟨nI (L + 20), me, mf, ?_, ?_, hW.tape hI (fun a j z1 z2 z3 z4 => ?_) ?_ (fun _ _ _ => ⟨L + 20, fun k => if k < L then b k else bz (yf x1 x2 x3 x4 x5 (k - L)), hL, ?_, f3, fun k hk => ?_⟩)⟩
    · unfold fX10_feed
      simp (disch := omega) only [h2, ea, eb, ec, ed, ee, e3', cl2_so, cl1_so, ck_tr, zl_0, zl_1, zl_2, zl_3, zl_4, zl_5, zl_6, zl_7, zl_8, zl_9, zl_10, zl_11, zl_12, zl_15, zl_16, zl_20, zl_24, zl_25, zl_30, zl_31, zl_32, zl_33, zl_44, zl_48, zl_50, zl_57, zl_59, zl_60, zl_61, zl_62, zl_63, zl_64, zl_68, zl_97, zl_99, zl_100, zl_104, zl_108, zl_114, zl_120, zl_122, zl_126, zl_132, zl_180, zl_181, zl_186, zl_255, zl_900, zl_930, zl_1000, zl_1000000, nI_add, pk_mul, zs_sub, zs_lt, zs_le, zs_eq, zs_inb, zs_cl, zm_eq, zm_eq2, zm_lt, zm_le, mz_lt, mz_le, mm_eq, zs_bit, zs_or1, zs_div, zs_rem, ck_pos, if_pos, if_neg, true_or, or_true, true_and, and_true, false_or, or_false, false_and, and_false, not_true, not_false_iff, if_true, if_false, eq_self, Bool.false_eq_true, cl2_id, Bool.not_true, Bool.not_false]
    · have k3 : (setI me 138 0 (nI 0)).1 138 2 = nI L := k2
      unfold fX11_feed
      simp (disch := omega) only [k3, ef, cl2_so, cl1_so, ck_tr, zl_0, zl_1, zl_2, zl_3, zl_4, zl_5, zl_6, zl_7, zl_8, zl_9, zl_10, zl_11, zl_12, zl_15, zl_16, zl_20, zl_24, zl_25, zl_30, zl_31, zl_32, zl_33, zl_44, zl_48, zl_50, zl_57, zl_59, zl_60, zl_61, zl_62, zl_63, zl_64, zl_68, zl_97, zl_99, zl_100, zl_104, zl_108, zl_114, zl_120, zl_122, zl_126, zl_132, zl_180, zl_181, zl_186, zl_255, zl_900, zl_930, zl_1000, zl_1000000, nI_add, pk_mul, zs_sub, zs_lt, zs_le, zs_eq, zs_inb, zs_cl, zm_eq, zm_eq2, zm_lt, zm_le, mz_lt, mz_le, mm_eq, zs_bit, zs_or1, zs_div, zs_rem, ck_pos, if_pos, if_neg, true_or, or_true, true_and, and_true, false_or, or_false, false_and, and_false, not_true, not_false_iff, if_true, if_false, eq_self, Bool.false_eq_true, cl2_id, Bool.not_true, Bool.not_false]
    · rw [f2 a j (by omega) z4, sI_1, if_neg (by omega), k1 a j z1 z2]
    · rw [f1]
      show me.2 = m.2
      rw [e1, d1, c1, b1, a1]
    · rw [f2 0 2 (by omega) (by omega), sI_na (by decide)]
      exact e3'
    · have z1 : mf.1 2 k = me.1 2 k := by rw [f2 2 k (by omega) (by omega), sI_na (by decide)]
      dsimp only
      by_cases q : k < L
      · rw [if_pos q]
        obtain ⟨y1, y2, y3⟩ := h4 k q
        refine ⟨y1, ?_, ?_⟩
        · rw [f4 k (by omega), sI_na (by decide), k1 139 k (by omega) (by omega)]
          exact y2
        · rw [z1, e4 k (by omega), d4 k (by omega), c4 k (by omega), b4 k (by omega), a4 k (by omega)]
          exact y3
      · rw [if_neg q]
        refine ⟨bz_lt _, ?_, ?_⟩
        · have := f5 (k - L) (by omega) (by omega)
          rw [show L + (k - L) = k by omega] at this
          exact this
        · rw [z1, ← bz_by8]
          unfold yf wdf
          by_cases q1 : k < L + 4
          · have := a5 (k - L) (by omega)
            rw [show L + (k - L) = k by omega] at this
            rw [e4 k (by omega), d4 k (by omega), c4 k (by omega), b4 k (by omega), this, if_pos (by omega), show k - L - (k - L) / 4 * 4 = k - L by omega]
          · by_cases q2 : k < L + 8
            · have := b5 (k - L - 4) (by omega)
              rw [show L + 4 + (k - L - 4) = k by omega] at this
              rw [e4 k (by omega), d4 k (by omega), c4 k (by omega), this, if_neg (by omega), if_pos (by omega), show k - L - (k - L) / 4 * 4 = k - L - 4 by omega]
            · by_cases q3 : k < L + 12
              · have := c5 (k - L - 8) (by omega)
                rw [show L + 4 + 4 + (k - L - 8) = k by omega] at this
                rw [e4 k (by omega), d4 k (by omega), this, if_neg (by omega), if_neg (by omega), if_pos (by omega), show k - L - (k - L) / 4 * 4 = k - L - 8 by omega]
              · by_cases q4 : k < L + 16
                · have := d5 (k - L - 12) (by omega)
                  rw [show L + 4 + 4 + 4 + (k - L - 12) = k by omega] at this
                  rw [e4 k (by omega), this, if_neg (by omega), if_neg (by omega), if_neg (by omega), if_pos (by omega), show k - L - (k - L) / 4 * 4 = k - L - 12 by omega]
                · have := e5 (k - L - 16) (by omega)
                  rw [show L + 4 + 4 + 4 + 4 + (k - L - 16) = k by omega] at this
                  rw [this, if_neg (by omega), if_neg (by omega), if_neg (by omega), if_neg (by omega), show k - L - (k - L) / 4 * 4 = k - L - 16 by omega]
  · refine ⟨-nI 1, m, setI m 138 0 (nI 0), ?_, ?_, hW.th hI _⟩
    · unfold fX10_feed
      simp (disch := omega) only [h2, hL, cl2_so, cl1_so, ck_tr, zl_0, zl_1, zl_2, zl_3, zl_4, zl_5, zl_6, zl_7, zl_8, zl_9, zl_10, zl_11, zl_12, zl_15, zl_16, zl_20, zl_24, zl_25, zl_30, zl_31, zl_32, zl_33, zl_44, zl_48, zl_50, zl_57, zl_59, zl_60, zl_61, zl_62, zl_63, zl_64, zl_68, zl_97, zl_99, zl_100, zl_104, zl_108, zl_114, zl_120, zl_122, zl_126, zl_132, zl_180, zl_181, zl_186, zl_255, zl_900, zl_930, zl_1000, zl_1000000, nI_add, pk_mul, zs_sub, zs_lt, zs_le, zs_eq, zs_inb, zs_cl, zm_eq, zm_eq2, zm_lt, zm_le, mz_lt, mz_le, mm_eq, zs_bit, zs_or1, zs_div, zs_rem, ck_pos, if_pos, if_neg, true_or, or_true, true_and, and_true, false_or, or_false, false_and, and_false, not_true, not_false_iff, if_true, if_false, eq_self, Bool.false_eq_true, cl2_id, Bool.not_true, Bool.not_false]
    · have k3 : (setI m 138 0 (nI 0)).1 138 2 = nI L := h3
      unfold fX11_feed
      simp (disch := omega) only [k3, hL, cl2_so, cl1_so, ck_tr, zl_0, zl_1, zl_2, zl_3, zl_4, zl_5, zl_6, zl_7, zl_8, zl_9, zl_10, zl_11, zl_12, zl_15, zl_16, zl_20, zl_24, zl_25, zl_30, zl_31, zl_32, zl_33, zl_44, zl_48, zl_50, zl_57, zl_59, zl_60, zl_61, zl_62, zl_63, zl_64, zl_68, zl_97, zl_99, zl_100, zl_104, zl_108, zl_114, zl_120, zl_122, zl_126, zl_132, zl_180, zl_181, zl_186, zl_255, zl_900, zl_930, zl_1000, zl_1000000, nI_add, pk_mul, zs_sub, zs_lt, zs_le, zs_eq, zs_inb, zs_cl, zm_eq, zm_eq2, zm_lt, zm_le, mz_lt, mz_le, mm_eq, zs_bit, zs_or1, zs_div, zs_rem, ck_pos, if_pos, if_neg, true_or, or_true, true_and, and_true, false_or, or_false, false_and, and_false, not_true, not_false_iff, if_true, if_false, eq_self, Bool.false_eq_true, cl2_id, Bool.not_true, Bool.not_false]
theorem t_fault (hI : Inv m) (hW : WI m) : Two fX10_fault fX11_fault m := by
  obtain ⟨H, r, s, T, L, b, U, ss, A, im, hJ, hF, hT, hU, hA, hN, hD⟩ := id hW
  refine ⟨m.1 1 8, m, setI m 138 0 (nI 0), rfl, ?_, hW.th hI _⟩
  unfold fX11_fault
  rw [sI_nj (by decide), hF.2.2.2.1]
  rfl
theorem t_where (hI : Inv m) (hW : WI m) : Two fX10_where fX11_where m := by
  obtain ⟨H, r, s, T, L, b, U, ss, A, im, hJ, hF, hT, hU, hA, hN, hD⟩ := id hW
  obtain ⟨t0, t1, t2, t3, t4⟩ := hF
  have k3 : (setI m 138 0 (nI 0)).1 138 11 = nI T := t2
  by_cases h4 : T = 4
  · have k4 : (setI m 138 0 (nI 0)).1 138 10 = m.1 1 9 := t4 h4
    refine ⟨m.1 1 9, m, setI m 138 0 (nI 0), ?_, ?_, hW.th hI _⟩
    · unfold fX10_where fX10_where_19
      simp (disch := omega) only [t1, h4, cl2_so, cl1_so, ck_tr, zl_0, zl_1, zl_2, zl_3, zl_4, zl_5, zl_6, zl_7, zl_8, zl_9, zl_10, zl_11, zl_12, zl_15, zl_16, zl_20, zl_24, zl_25, zl_30, zl_31, zl_32, zl_33, zl_44, zl_48, zl_50, zl_57, zl_59, zl_60, zl_61, zl_62, zl_63, zl_64, zl_68, zl_97, zl_99, zl_100, zl_104, zl_108, zl_114, zl_120, zl_122, zl_126, zl_132, zl_180, zl_181, zl_186, zl_255, zl_900, zl_930, zl_1000, zl_1000000, nI_add, pk_mul, zs_sub, zs_lt, zs_le, zs_eq, zs_inb, zs_cl, zm_eq, zm_eq2, zm_lt, zm_le, mz_lt, mz_le, mm_eq, zs_bit, zs_or1, zs_div, zs_rem, ck_pos, if_pos, if_neg, true_or, or_true, true_and, and_true, false_or, or_false, false_and, and_false, not_true, not_false_iff, if_true, if_false, eq_self, Bool.false_eq_true, cl2_id, Bool.not_true, Bool.not_false]
    · unfold fX11_where fX11_where_21
      simp (disch := omega) only [k3, h4, k4, cl2_so, cl1_so, ck_tr, zl_0, zl_1, zl_2, zl_3, zl_4, zl_5, zl_6, zl_7, zl_8, zl_9, zl_10, zl_11, zl_12, zl_15, zl_16, zl_20, zl_24, zl_25, zl_30, zl_31, zl_32, zl_33, zl_44, zl_48, zl_50, zl_57, zl_59, zl_60, zl_61, zl_62, zl_63, zl_64, zl_68, zl_97, zl_99, zl_100, zl_104, zl_108, zl_114, zl_120, zl_122, zl_126, zl_132, zl_180, zl_181, zl_186, zl_255, zl_900, zl_930, zl_1000, zl_1000000, nI_add, pk_mul, zs_sub, zs_lt, zs_le, zs_eq, zs_inb, zs_cl, zm_eq, zm_eq2, zm_lt, zm_le, mz_lt, mz_le, mm_eq, zs_bit, zs_or1, zs_div, zs_rem, ck_pos, if_pos, if_neg, true_or, or_true, true_and, and_true, false_or, or_false, false_and, and_false, not_true, not_false_iff, if_true, if_false, eq_self, Bool.false_eq_true, cl2_id, Bool.not_true, Bool.not_false]
  · refine ⟨-nI 1, m, setI m 138 0 (nI 0), ?_, ?_, hW.th hI _⟩
    · unfold fX10_where fX10_where_19
      simp (disch := omega) only [t1, h4, cl2_so, cl1_so, ck_tr, zl_0, zl_1, zl_2, zl_3, zl_4, zl_5, zl_6, zl_7, zl_8, zl_9, zl_10, zl_11, zl_12, zl_15, zl_16, zl_20, zl_24, zl_25, zl_30, zl_31, zl_32, zl_33, zl_44, zl_48, zl_50, zl_57, zl_59, zl_60, zl_61, zl_62, zl_63, zl_64, zl_68, zl_97, zl_99, zl_100, zl_104, zl_108, zl_114, zl_120, zl_122, zl_126, zl_132, zl_180, zl_181, zl_186, zl_255, zl_900, zl_930, zl_1000, zl_1000000, nI_add, pk_mul, zs_sub, zs_lt, zs_le, zs_eq, zs_inb, zs_cl, zm_eq, zm_eq2, zm_lt, zm_le, mz_lt, mz_le, mm_eq, zs_bit, zs_or1, zs_div, zs_rem, ck_pos, if_pos, if_neg, true_or, or_true, true_and, and_true, false_or, or_false, false_and, and_false, not_true, not_false_iff, if_true, if_false, eq_self, Bool.false_eq_true, cl2_id, Bool.not_true, Bool.not_false]
    · unfold fX11_where fX11_where_21
      simp (disch := omega) only [k3, h4, cl2_so, cl1_so, ck_tr, zl_0, zl_1, zl_2, zl_3, zl_4, zl_5, zl_6, zl_7, zl_8, zl_9, zl_10, zl_11, zl_12, zl_15, zl_16, zl_20, zl_24, zl_25, zl_30, zl_31, zl_32, zl_33, zl_44, zl_48, zl_50, zl_57, zl_59, zl_60, zl_61, zl_62, zl_63, zl_64, zl_68, zl_97, zl_99, zl_100, zl_104, zl_108, zl_114, zl_120, zl_122, zl_126, zl_132, zl_180, zl_181, zl_186, zl_255, zl_900, zl_930, zl_1000, zl_1000000, nI_add, pk_mul, zs_sub, zs_lt, zs_le, zs_eq, zs_inb, zs_cl, zm_eq, zm_eq2, zm_lt, zm_le, mz_lt, mz_le, mm_eq, zs_bit, zs_or1, zs_div, zs_rem, ck_pos, if_pos, if_neg, true_or, or_true, true_and, and_true, false_or, or_false, false_and, and_false, not_true, not_false_iff, if_true, if_false, eq_self, Bool.false_eq_true, cl2_id, Bool.not_true, Bool.not_false]
theorem t_trouble (hI : Inv m) (hW : WI m) : Two fX10_trouble fX11_trouble m := by
  obtain ⟨H, r, s, T, L, b, U, ss, A, im, hJ, hF, hT, hU, hA, hN, hD⟩ := id hW
  obtain ⟨t0, t1, t2, t3, t4⟩ := hF
  refine ⟨nI T, m, setI m 138 0 (nI 0), ?_, ?_, hW.th hI _⟩
  · unfold fX10_trouble
    rw [t1]
  · unfold fX11_trouble
    rw [show (setI m 138 0 0).1 138 11 = nI T from t2]
    rfl
theorem t_size (hI : Inv m) (hW : WI m) : Two (fX10_size x1) (fX11_size x1) m := by
  obtain ⟨H, r, s, T, L, b, U, ss, A, im, hJ, hF, hT, hU, hA, hN, hD⟩ := id hW
  obtain ⟨hC, hM, hO, hS⟩ := id hJ
  suffices h : ∃ V, fX10_size x1 m = some (V, m) ∧ fX11_size x1 m = some (V, setI m 138 0 0) by
    obtain ⟨V, e1, e2⟩ := h
    exact ⟨V, m, _, e1, e2, hW.th hI _⟩
  have c2 : (setI m 138 0 0).1 138 2 = nI L := hT.2.2.1
  have c14 : (setI m 138 0 0).1 138 14 = nI (HB H) := hM.1
  have c21 : (setI m 138 0 0).1 138 21 = nI U := hU.2.2.1
  have c22 : (setI m 138 0 0).1 138 22 = nI A := hA.2.2.1
  have d1 := hT.2.1
  have d84 := hU.2.1
  have d7 := hA.2.1
  unfold fX10_size fX10_size_91 fX11_size fX11_size_38
  rw [c2, c14, c21, c22]
  cases H
  · obtain ⟨n1, n2, n3, n4⟩ := hN rfl
    subst n1
    subst n2
    rw [n3 0 (by omega), n3 1 (by omega), n3 3 (by omega), n3 7 (by omega), n3 9 (by omega), n3 11 (by omega), n3 13 (by omega), n4, d84, d7, d1]
    have w : ∀ x : Int32, (x = 0 ∨ x = 1 ∨ x = 2 ∨ x = 3 ∨ x = 4 ∨ x = 5 ∨ x = 6 ∨ x = 7 ∨ x = 8 ∨ x = 9) → fX11_within x 0 9 (setI m 138 0 0) = some (1, setI m 138 0 0) := by
      rintro x (rfl | rfl | rfl | rfl | rfl | rfl | rfl | rfl | rfl | rfl) <;> rw [within_e] <;> rfl
    by_cases q0 : x1 = 0
    · subst q0; exact ⟨nI 0, rfl, by rw [w 0 (by simp)]; rfl⟩
    by_cases q1 : x1 = 1
    · subst q1; exact ⟨nI 0, rfl, by rw [w 1 (by simp)]; rfl⟩
    by_cases q2 : x1 = 2
    · subst q2; exact ⟨nI 0, rfl, by rw [w 2 (by simp)]; rfl⟩
    by_cases q3 : x1 = 3
    · subst q3; exact ⟨nI 0, rfl, by rw [w 3 (by simp)]; rfl⟩
    by_cases q4 : x1 = 4
    · subst q4; exact ⟨nI 0, rfl, by rw [w 4 (by simp)]; rfl⟩
    by_cases q5 : x1 = 5
    · subst q5; exact ⟨nI 0, rfl, by rw [w 5 (by simp)]; rfl⟩
    by_cases q6 : x1 = 6
    · subst q6; exact ⟨nI 0, rfl, by rw [w 6 (by simp)]; rfl⟩
    by_cases q7 : x1 = 7
    · subst q7; exact ⟨nI 0, rfl, by rw [w 7 (by simp)]; rfl⟩
    by_cases q8 : x1 = 8
    · subst q8; exact ⟨nI 0, rfl, by rw [w 8 (by simp)]; rfl⟩
    by_cases q9 : x1 = 9
    · subst q9; exact ⟨nI 0, rfl, by rw [w 9 (by simp)]; rfl⟩
    by_cases q10 : x1 = 10
    · subst q10; exact ⟨nI L, rfl, rfl⟩
    have wn : fX11_within x1 0 9 (setI m 138 0 0) = some (0, setI m 138 0 0) := by
      rw [within_e, if_neg]
      rintro ⟨z1, z2⟩
      obtain ⟨k, hk, rfl⟩ := nI_of (Int32.not_lt.mpr z1)
      have z3 : k ≤ 9 := (nI_leI hk (by omega)).mp z2
      have : k = 0 ∨ k = 1 ∨ k = 2 ∨ k = 3 ∨ k = 4 ∨ k = 5 ∨ k = 6 ∨ k = 7 ∨ k = 8 ∨ k = 9 := by omega
      rcases this with rfl | rfl | rfl | rfl | rfl | rfl | rfl | rfl | rfl | rfl
      · exact q0 rfl
      · exact q1 rfl
      · exact q2 rfl
      · exact q3 rfl
      · exact q4 rfl
      · exact q5 rfl
      · exact q6 rfl
      · exact q7 rfl
      · exact q8 rfl
      · exact q9 rfl
    refine ⟨-1, ?_, ?_⟩
    · rw [if_neg q0, if_neg q1, if_neg q2, if_neg q3, if_neg q4, if_neg q5, if_neg q6, if_neg q7, if_neg q8, if_neg q9, if_neg q10]
    · rw [if_neg q10, wn]
      rfl
  · have hK : KO r s := hO rfl
    obtain ⟨⟨⟨a0, a1, a3⟩, ⟨a2, a7, a9, a11, a13⟩, -⟩, -, p1, p2, -⟩ := hC.2 rfl
    have mr : ∀ k, k < 186 → (setI m 138 0 0).1 141 k = nI (r k) := fun k hk => (sI_na (by decide)).trans ((hM.2 rfl).1 k hk)
    have ms : (setI m 138 0 0).1 143 61 = nI (s 61) := (sI_na (by decide)).trans ((hM.2 rfl).2 61 (by omega))
    rw [mr 0 (by omega), mr 1 (by omega), mr 3 (by omega), mr 5 (by omega), mr 6 (by omega), mr 7 (by omega), mr 8 (by omega), ms, a0, a1, a3, a7, a9, a11, a13, p2, d84, d7, d1]
    have f4 : r 3 = 0 ∨ r 3 = 1 := by have := hK.1.1.2.2.2.2; omega
    by_cases q10 : x1 = 10
    · subst q10; exact ⟨nI L, rfl, rfl⟩
    by_cases q0 : x1 = 0
    · subst q0; exact ⟨_, rfl, rfl⟩
    by_cases q1 : x1 = 1
    · subst q1; exact ⟨_, rfl, rfl⟩
    by_cases q2 : x1 = 2
    · subst q2
      rcases f4 with f4 | f4
      · rw [f4]; exact ⟨nI 0, rfl, rfl⟩
      · rw [f4]; exact ⟨nI 1, rfl, rfl⟩
    by_cases q3 : x1 = 3
    · subst q3; exact ⟨_, rfl, rfl⟩
    by_cases q4 : x1 = 4
    · subst q4; exact ⟨_, rfl, rfl⟩
    by_cases q5 : x1 = 5
    · subst q5; exact ⟨_, rfl, rfl⟩
    by_cases q6 : x1 = 6
    · subst q6; exact ⟨_, rfl, rfl⟩
    by_cases q7 : x1 = 7
    · subst q7; exact ⟨_, rfl, rfl⟩
    by_cases q8 : x1 = 8
    · subst q8; exact ⟨_, rfl, rfl⟩
    by_cases q9 : x1 = 9
    · subst q9; exact ⟨_, rfl, rfl⟩
    refine ⟨-1, ?_, ?_⟩
    · rw [if_neg q0, if_neg q1, if_neg q2, if_neg q3, if_neg q4, if_neg q5, if_neg q6, if_neg q7, if_neg q8, if_neg q9, if_neg q10]
    · rw [if_neg q10, if_neg (by decide), if_neg q0, if_neg q1, if_neg q2, if_neg q3, if_neg q4, if_neg q5, if_neg q6, if_neg q7, if_neg q8, if_neg q9]
end TAPE
