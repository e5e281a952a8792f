/-! the call fan -/
section FAN
variable {N : Nat} {b : Nat → Nat} {m c0 : Me} {a n κ t : Nat} {r s : Nat → Nat}
theorem wp2 {p : Nat} : ∀ j k f (m : Me), (∀ i, i < k → m.1 (p + 1) i = nI 25) → k + j = 60 → j < f → ∃ m', fX5_wipe_2 f p (nI k) m = some m' ∧ (∀ i, i < 60 → m'.1 (p + 1) i = nI 25) ∧ m'.1 p 1 = nI 0 ∧ m'.1 p 2 = nI 0 ∧ (∀ x j, x ≠ p → x ≠ p + 1 → m'.1 x j = m.1 x j) ∧ m'.2 = m.2 := by
  intro j
  induction j with
  | zero =>
    intro k f m h hk hf
    obtain ⟨f, rfl⟩ : ∃ n', f = n' + 1 := ⟨f - 1, by omega⟩
    obtain rfl : k = 60 := by omega
    refine ⟨setI (setI m p 1 (nI 0)) p 2 (nI 0), ?_, fun i hi => ?_, ?_, sI_eq _ _ _ _, fun x j z1 z2 => (sI_na z1).trans (sI_na z1), rfl⟩
    · rw [fX5_wipe_2, if_pos (by decide)]
      rfl
    · rw [sI_na (by omega), sI_na (by omega)]
      exact h i hi
    · rw [sI_nj (by decide), sI_eq]
  | succ j ih =>
    intro k f m h hk hf
    obtain ⟨f, rfl⟩ : ∃ n', f = n' + 1 := ⟨f - 1, by omega⟩
    obtain ⟨m', i1, i2, i3, i4, i5, i6⟩ := ih (k + 1) f (setI m (p + 1) k (nI 25)) (fun i hi => by
      by_cases z : i = k
      · subst z
        exact sI_eq _ _ _ _
      · rw [sI_nj z]
        exact h i (by omega)) (by omega) (by omega)
    refine ⟨m', ?_, i2, i3, i4, fun x j z1 z2 => (i5 x j z1 z2).trans (sI_na z2), i6⟩
    rw [fX5_wipe_2]
    simp (disch := omega) only [cl2_so, cl1_so, ck_tr, zl_0, zl_1, zl_2, zl_3, zl_4, zl_5, zl_6, zl_7, zl_8, zl_9, zl_10, zl_11, zl_12, zl_15, zl_16, zl_20, zl_24, zl_25, zl_30, zl_31, zl_32, zl_33, zl_44, zl_48, zl_50, zl_57, zl_59, zl_60, zl_61, zl_62, zl_63, zl_64, zl_68, zl_97, zl_99, zl_100, zl_104, zl_108, zl_114, zl_120, zl_122, zl_126, zl_132, zl_180, zl_181, zl_186, zl_255, zl_900, zl_930, zl_1000, zl_1000000, nI_add, pk_mul, zs_sub, zs_lt, zs_le, zs_eq, zs_inb, zs_cl, zm_eq, zm_eq2, zm_lt, zm_le, mz_lt, mz_le, mm_eq, zs_bit, zs_or1, zs_div, zs_rem, ck_pos, if_pos, if_neg, true_or, or_true, true_and, and_true, false_or, or_false, false_and, and_false, not_true, not_false_iff, if_true, if_false, eq_self, Bool.false_eq_true, cl2_id, Bool.not_true, Bool.not_false]
    exact i1
theorem forget_e (t : Nat) (m : Me) : ∃ m', fX2_forget t m = some m' ∧ (∀ x j, x ≠ t → x ≠ t + 1 → x ≠ t + 2 → m'.1 x j = m.1 x j) ∧ m'.2 = m.2 ∧ (∀ j, (j = 0 ∨ j = 1 ∨ j = 2 ∨ j = 3 ∨ j = 4 ∨ j = 7 ∨ j = 9 ∨ j = 11 ∨ j = 13) → m'.1 t j = nI 0) ∧ m'.1 (t + 1) 1 = nI 0 ∧ m'.1 (t + 1) 2 = nI 0 ∧ ∀ k, k < 60 → m'.1 (t + 2) k = nI 25 := by
  obtain ⟨m', e, a1, a2, a3, a4, a5⟩ := wp2 (p := t + 1) 60 0 FU (setI (setI (setI (setI (setI m t 0 0) t 1 0) t 2 0) t 3 0) t 4 0) (fun i hi => absurd hi (by omega)) (by omega) (FU_pos (by omega))
  refine ⟨setI (setI (setI (setI m' t 7 0) t 9 0) t 11 0) t 13 0, ?_, fun x j z1 z2 z3 => ?_, a5, fun j hj => ?_, ?_, ?_, fun k hk => ?_⟩
  · unfold fX2_forget
    have e' : fX5_wipe (t + 1) (setI (setI (setI (setI (setI m t 0 0) t 1 0) t 2 0) t 3 0) t 4 0) = some m' := e
    rw [e', cl1_so]
  · rw [sI_na z1, sI_na z1, sI_na z1, sI_na z1, a4 x j z2 z3, sI_na z1, sI_na z1, sI_na z1, sI_na z1, sI_na z1]
  · have hm : ∀ j, m'.1 t j = (setI (setI (setI (setI (setI m t 0 0) t 1 0) t 2 0) t 3 0) t 4 0).1 t j := fun j => a4 t j (by omega) (by omega)
    rcases hj with rfl | rfl | rfl | rfl | rfl | rfl | rfl | rfl | rfl
    · rw [sI_nj (by decide), sI_nj (by decide), sI_nj (by decide), sI_nj (by decide), hm, sI_nj (by decide), sI_nj (by decide), sI_nj (by decide), sI_nj (by decide), sI_eq]; rfl
    · rw [sI_nj (by decide), sI_nj (by decide), sI_nj (by decide), sI_nj (by decide), hm, sI_nj (by decide), sI_nj (by decide), sI_nj (by decide), sI_eq]; rfl
    · rw [sI_nj (by decide), sI_nj (by decide), sI_nj (by decide), sI_nj (by decide), hm, sI_nj (by decide), sI_nj (by decide), sI_eq]; rfl
    · rw [sI_nj (by decide), sI_nj (by decide), sI_nj (by decide), sI_nj (by decide), hm, sI_nj (by decide), sI_eq]; rfl
    · rw [sI_nj (by decide), sI_nj (by decide), sI_nj (by decide), sI_nj (by decide), hm, sI_eq]; rfl
    · rw [sI_nj (by decide), sI_nj (by decide), sI_nj (by decide), sI_eq]; rfl
    · rw [sI_nj (by decide), sI_nj (by decide), sI_eq]; rfl
    · rw [sI_nj (by decide), sI_eq]; rfl
    · rw [sI_eq]; rfl
  · rw [sI_na (by omega), sI_na (by omega), sI_na (by omega), sI_na (by omega)]
    exact a2
  · rw [sI_na (by omega), sI_na (by omega), sI_na (by omega), sI_na (by omega)]
    exact a3
  · rw [sI_na (by omega), sI_na (by omega), sI_na (by omega), sI_na (by omega)]
    exact a1 k hk
theorem fanC (ht : t = 3 ∨ t = 42) (hr0 : rr c0 1 2 = t) (hN : N ≤ 900) (htx : ∀ k, k < N → b k < 256 ∧ c0.1 2 k = by8 (b k)) (hT : Tk N b 0 a n κ) : ∃ c1, fX6_readFan (nI N) c0 = fX6_readFan_51 FU (nI 0) c1 ∧ RC c0 c1 t N b a n κ false (fun _ => 0) s00 := by
  obtain ⟨m4, e4, a1, a2, a3, a4, a5, a6⟩ := forget_e t (setI c0 1 1 (nI N))
  generalize hm5 : setI (setI (setI (setI (setI m4 1 3 (nI 0)) 1 8 (nI 0)) 1 9 (-nI 1)) 1 5 (nI 0)) 1 6 (nI 0) = m5
  have fr : ∀ x j, x ≠ 1 → m5.1 x j = m4.1 x j := fun x j z => by
    rw [← hm5, sI_na z, sI_na z, sI_na z, sI_na z, sI_na z]
  have f21 : m5.1 1 1 = nI N := by
    rw [← hm5, sI_nj (by decide), sI_nj (by decide), sI_nj (by decide), sI_nj (by decide), sI_nj (by decide), a1 1 1 (by omega) (by omega) (by omega), sI_eq]
  have f23 : m5.1 1 3 = nI 0 := by
    rw [← hm5, sI_nj (by decide), sI_nj (by decide), sI_nj (by decide), sI_nj (by decide), sI_eq]
  have f28 : m5.1 1 8 = nI 0 := by
    rw [← hm5, sI_nj (by decide), sI_nj (by decide), sI_nj (by decide), sI_eq]
  have f25 : m5.1 1 5 = nI 0 := by
    rw [← hm5, sI_nj (by decide), sI_eq]
  have f26 : m5.1 1 6 = nI 0 := by
    rw [← hm5, sI_eq]
  have hX : XC m5 N b := ⟨hN, f21, fun k hk => ⟨(htx k hk).1, (fr 2 k (by omega)).trans ((a1 2 k (by omega) (by omega) (by omega)).trans ((sI_na (by decide)).trans (htx k hk).2))⟩⟩
  obtain ⟨c1, e1, g1, g2, -⟩ := step_e hX f25 f26 rfl (by omega) hT
  have cx : ∀ x j, x ≠ 1 → c1.1 x j = m4.1 x j := fun x j z => (g2.1 x j (by omega)).trans (fr x j z)
  have c2 : c1.2 = c0.2 := g2.2.trans (by rw [← hm5]; exact a2)
  refine ⟨c1, ?_, ⟨fun x j z1 z2 => ?_, c2⟩, ⟨hX.fc g2, g1, hT.to⟩, (g2.1 1 3 (by omega)).trans f23, (g2.1 1 8 (by omega)).trans f28, ⟨⟨?_, ?_, ?_⟩, ⟨?_, ?_, ?_, ?_, ?_⟩, fun w hw => absurd hw (Nat.not_lt_zero _), fun w hw => absurd hw (Nat.not_lt_zero _), fun w hw => absurd hw (Nat.not_lt_zero _), fun w hw => absurd hw (Nat.not_lt_zero _)⟩, ?_, ⟨fun side rib c x y => absurd y (Nat.not_lt_zero _), ?_, ?_, fun k hk _ => ?_⟩⟩
  · unfold fX6_readFan
    have hmin : (if (900 : Int32) < nI N then (900 : Int32) else nI N) = nI N := if_neg (show ¬ nI 900 < nI N by rw [zs_lt (by omega) (by omega)]; omega)
    rw [hmin, hr0, e4, cl1_so]
    have e1' : fX6_step (setI (setI (setI (setI (setI m4 1 3 (0 : Int32)) 1 8 (0 : Int32)) 1 9 (-1 : Int32)) 1 5 (0 : Int32)) 1 6 (0 : Int32)) = some c1 := by
      rw [← e1, ← hm5]
      rfl
    rw [e1', cl1_so]
    rfl
  · rw [cx x j z1, a1 x j (by omega) (by omega) (by omega), sI_na z1]
  · rw [cx t 0 (by omega)]; exact a3 0 (by omega)
  · rw [cx t 1 (by omega)]; exact a3 1 (by omega)
  · rw [cx t 3 (by omega)]; exact a3 3 (by omega)
  · rw [cx t 2 (by omega)]; exact a3 2 (by omega)
  · rw [cx t 7 (by omega)]; exact a3 7 (by omega)
  · rw [cx t 9 (by omega)]; exact a3 9 (by omega)
  · rw [cx t 11 (by omega)]; exact a3 11 (by omega)
  · rw [cx t 13 (by omega)]; exact a3 13 (by omega)
  · rw [cx t 4 (by omega)]; exact a3 4 (by omega)
  · rw [cx (t + 1) 1 (by omega)]; exact a4
  · rw [cx (t + 1) 2 (by omega)]; exact a5
  · rw [cx (t + 1 + 1) k (by omega)]; exact a6 k hk
theorem f39 {x : Int32} : ∀ j k f (m : Me), (∀ i, i < k → m.1 142 i = nI 0) → k + j = 186 → j < f → ∃ m', fX11_fan_39 f x (nI k) m = fX11_fan_61 FU x (nI 0) m' ∧ (∀ i, i < 186 → m'.1 142 i = nI 0) ∧ (∀ y j, y ≠ 142 → m'.1 y j = m.1 y j) ∧ m'.2 = m.2 := by
  intro j
  induction j with
  | zero =>
    intro k f m h hk hf
    obtain ⟨f, rfl⟩ : ∃ n', f = n' + 1 := ⟨f - 1, by omega⟩
    obtain rfl : k = 186 := by omega
    refine ⟨m, ?_, h, fun _ _ _ => rfl, rfl⟩
    rw [fX11_fan_39, if_pos (by decide)]
    rfl
  | succ j ih =>
    intro k f m h hk hf
    obtain ⟨f, rfl⟩ : ∃ n', f = n' + 1 := ⟨f - 1, by omega⟩
    obtain ⟨m', i1, i2, i3, i4⟩ := ih (k + 1) f (setI m 142 k (nI 0)) (fun i hi => by
      by_cases z : i = k
      · subst z
        exact sI_eq _ _ _ _
      · rw [sI_nj z]
        exact h i (by omega)) (by omega) (by omega)
    refine ⟨m', ?_, i2, fun y j z => (i3 y j z).trans (sI_na z), i4⟩
    rw [fX11_fan_39]
    simp (disch := omega) only [cl2_so, cl1_so, ck_tr, zl_0, zl_1, zl_2, zl_3, zl_4, zl_5, zl_6, zl_7, zl_8, zl_9, zl_10, zl_11, zl_12, zl_15, zl_16, zl_20, zl_24, zl_25, zl_30, zl_31, zl_32, zl_33, zl_44, zl_48, zl_50, zl_57, zl_59, zl_60, zl_61, zl_62, zl_63, zl_64, zl_68, zl_97, zl_99, zl_100, zl_104, zl_108, zl_114, zl_120, zl_122, zl_126, zl_132, zl_180, zl_181, zl_186, zl_255, zl_900, zl_930, zl_1000, zl_1000000, nI_add, pk_mul, zs_sub, zs_lt, zs_le, zs_eq, zs_inb, zs_cl, zm_eq, zm_eq2, zm_lt, zm_le, mz_lt, mz_le, mm_eq, zs_bit, zs_or1, zs_div, zs_rem, ck_pos, if_pos, if_neg, true_or, or_true, true_and, and_true, false_or, or_false, false_and, and_false, not_true, not_false_iff, if_true, if_false, eq_self, Bool.false_eq_true, cl2_id, Bool.not_true, Bool.not_false]
    exact i1
theorem f61 {x : Int32} : ∀ j k f (m : Me), (∀ i, i < k → m.1 144 i = nI (s00 i)) → k + j = 62 → j < f → ∃ m', fX11_fan_61 f x (nI k) m = (cl1 (fX11_next (setI (setI m' 138 3 x) 138 5 (nI 0))) fun m18 => cl1 (fX11_readLine m18) fun m21 => fX11_fan_109 FU m21) ∧ (∀ i, i < 62 → m'.1 144 i = nI (s00 i)) ∧ (∀ y j, y ≠ 144 → m'.1 y j = m.1 y j) ∧ m'.2 = m.2 := by
  intro j
  induction j with
  | zero =>
    intro k f m h hk hf
    obtain ⟨f, rfl⟩ : ∃ n', f = n' + 1 := ⟨f - 1, by omega⟩
    obtain rfl : k = 62 := by omega
    refine ⟨m, ?_, h, fun _ _ _ => rfl, rfl⟩
    rw [fX11_fan_61, if_pos (by decide)]
    rfl
  | succ j ih =>
    intro k f m h hk hf
    obtain ⟨f, rfl⟩ : ∃ n', f = n' + 1 := ⟨f - 1, by omega⟩
    obtain ⟨m', i1, i2, i3, i4⟩ := ih (k + 1) f (setI m 144 k (nI (s00 k))) (fun i hi => by
      by_cases z : i = k
      · subst z
        exact sI_eq _ _ _ _
      · rw [sI_nj z]
        exact h i (by omega)) (by omega) (by omega)
    refine ⟨m', ?_, i2, fun y j z => (i3 y j z).trans (sI_na z), i4⟩
    rw [← i1, fX11_fan_61]
    unfold fX11_fan_84 s00
    by_cases q : k < 60
    · rw [if_pos q]
      simp (disch := omega) only [cl2_so, cl1_so, ck_tr, zl_0, zl_1, zl_2, zl_3, zl_4, zl_5, zl_6, zl_7, zl_8, zl_9, zl_10, zl_11, zl_12, zl_15, zl_16, zl_20, zl_24, zl_25, zl_30, zl_31, zl_32, zl_33, zl_44, zl_48, zl_50, zl_57, zl_59, zl_60, zl_61, zl_62, zl_63, zl_64, zl_68, zl_97, zl_99, zl_100, zl_104, zl_108, zl_114, zl_120, zl_122, zl_126, zl_132, zl_180, zl_181, zl_186, zl_255, zl_900, zl_930, zl_1000, zl_1000000, nI_add, pk_mul, zs_sub, zs_lt, zs_le, zs_eq, zs_inb, zs_cl, zm_eq, zm_eq2, zm_lt, zm_le, mz_lt, mz_le, mm_eq, zs_bit, zs_or1, zs_div, zs_rem, ck_pos, if_pos, if_neg, true_or, or_true, true_and, and_true, false_or, or_false, false_and, and_false, not_true, not_false_iff, if_true, if_false, eq_self, Bool.false_eq_true, cl2_id, Bool.not_true, Bool.not_false]
    · rw [if_neg q]
      simp (disch := omega) only [cl2_so, cl1_so, ck_tr, zl_0, zl_1, zl_2, zl_3, zl_4, zl_5, zl_6, zl_7, zl_8, zl_9, zl_10, zl_11, zl_12, zl_15, zl_16, zl_20, zl_24, zl_25, zl_30, zl_31, zl_32, zl_33, zl_44, zl_48, zl_50, zl_57, zl_59, zl_60, zl_61, zl_62, zl_63, zl_64, zl_68, zl_97, zl_99, zl_100, zl_104, zl_108, zl_114, zl_120, zl_122, zl_126, zl_132, zl_180, zl_181, zl_186, zl_255, zl_900, zl_930, zl_1000, zl_1000000, nI_add, pk_mul, zs_sub, zs_lt, zs_le, zs_eq, zs_inb, zs_cl, zm_eq, zm_eq2, zm_lt, zm_le, mz_lt, mz_le, mm_eq, zs_bit, zs_or1, zs_div, zs_rem, ck_pos, if_pos, if_neg, true_or, or_true, true_and, and_true, false_or, or_false, false_and, and_false, not_true, not_false_iff, if_true, if_false, eq_self, Bool.false_eq_true, cl2_id, Bool.not_true, Bool.not_false]
theorem fanM {L : Nat} (hL : m.1 138 2 = nI L) (hNL : N ≤ L) (hL9 : L ≤ 900) (htx : ∀ k, k < N → b k < 256 ∧ m.1 139 k = nI (b k)) (hT : Tk N b 0 a n κ) : ∃ d0 d1, fX11_fan (nI N) m = (cl1 (fX11_readLine d1) fun m21 => fX11_fan_109 FU m21) ∧ RM d0 d1 N b a n κ (fun _ => 0) s00 ∧ (∀ x j, x ≠ 138 → x ≠ 142 → x ≠ 144 → d0.1 x j = m.1 x j) ∧ (∀ j, (j = 14 ∨ j = 21 ∨ j = 22) → d0.1 138 j = m.1 138 j) ∧ d0.1 138 2 = nI 0 ∧ d0.1 138 11 = nI 0 ∧ d0.2 = m.2 := by
  generalize hm0 : setI (setI (setI (gdM m) 138 2 (nI 0)) 138 9 (nI 0)) 138 13 (nI 0) = m0
  have fr0 : ∀ x j, x ≠ 138 → m0.1 x j = m.1 x j := fun x j z => by
    rw [← hm0, sI_na z, sI_na z, sI_na z]
    unfold gdM
    rw [sI_na z, sI_na z]
  have fr7 : ∀ j, (j = 14 ∨ j = 21 ∨ j = 22) → m0.1 138 j = m.1 138 j := fun j hj => by
    rw [← hm0, sI_nj (by omega), sI_nj (by omega), sI_nj (by omega)]
    unfold gdM
    rw [sI_nj (by omega), sI_nj (by omega)]
  have g2 : m0.1 138 2 = nI 0 := by
    rw [← hm0, sI_nj (by decide), sI_nj (by decide), sI_eq]
  have g9 : m0.1 138 9 = nI 0 := by
    rw [← hm0, sI_nj (by decide), sI_eq]
  have g13 : m0.1 138 13 = nI 0 := by
    rw [← hm0, sI_eq]
  have g11 : m0.1 138 11 = nI 0 := by
    rw [← hm0, sI_nj (by decide), sI_nj (by decide), sI_nj (by decide)]
    exact gd_11 m
  obtain ⟨m1, e1, a1, a2, a3⟩ := f39 (x := nI N) 186 0 FU m0 (fun i hi => absurd hi (by omega)) (by omega) (FU_pos (by omega))
  obtain ⟨m2, e2, b1, b2, b3⟩ := f61 (x := nI N) 62 0 FU m1 (fun i hi => absurd hi (by omega)) (by omega) (FU_pos (by omega))
  have k7 : ∀ j, j ≠ 3 → j ≠ 5 → (setI (setI m2 138 3 (nI N)) 138 5 (nI 0)).1 138 j = m0.1 138 j := fun j z1 z2 => by
    rw [sI_nj z2, sI_nj z1, b2 138 j (by omega), a2 138 j (by omega)]
  have kx : ∀ x j, x ≠ 138 → x ≠ 142 → x ≠ 144 → (setI (setI m2 138 3 (nI N)) 138 5 (nI 0)).1 x j = m.1 x j := fun x j z1 z2 z3 => by
    rw [sI_na z1, sI_na z1, b2 x j z3, a2 x j z2, fr0 x j z1]
  have hX : XM (setI (setI m2 138 3 (nI N)) 138 5 (nI 0)) N b := ⟨by omega, (sI_nj (by decide)).trans (sI_eq _ _ _ _), fun k hk => ⟨(htx k hk).1, (kx 139 k (by omega) (by omega) (by omega)).trans (htx k hk).2⟩⟩
  obtain ⟨d1, e3, c1, c2⟩ := next_e hX (sI_eq _ _ _ _) (by omega) hT
  refine ⟨setI (setI m2 138 3 (nI N)) 138 5 (nI 0), d1, ?_, ⟨c2.gf, ⟨hX.fm c2, c1, hT.to, (c2.1 138 13 (by omega) (by omega)).trans ((k7 13 (by omega) (by omega)).trans g13)⟩, (c2.1 138 9 (by omega) (by omega)).trans ((k7 9 (by omega) (by omega)).trans g9), fun k hk => ?_, fun k hk => ?_⟩, kx, fun j hj => (k7 j (by omega) (by omega)).trans (fr7 j hj), (k7 2 (by omega) (by omega)).trans g2, (k7 11 (by omega) (by omega)).trans g11, ?_⟩
  · have ew : fX11_within (nI N) (0 : Int32) (nI L) (gdM m) = some (nI 1, gdM m) := by
      rw [within_e, if_pos ⟨(zs_le (a := 0) (b := N) (by omega) (by omega)).mpr (by omega), (zs_le (by omega) (by omega)).mpr hNL⟩]
      rfl
    have e0 : (gdM m).1 138 2 = nI L := hL
    unfold fX11_fan
    rw [gd_e, cl1_so, e0]
    refine (cl2_e ew).trans ?_
    rw [if_neg (by decide)]
    have em : setI (setI (setI (gdM m) 138 2 (0 : Int32)) 138 9 (0 : Int32)) 138 13 (0 : Int32) = m0 := hm0
    rw [em]
    refine e1.trans (e2.trans ?_)
    rw [e3, cl1_so]
  · rw [c2.1 142 k (by omega) (by omega), sI_na (by decide), sI_na (by decide), b2 142 k (by omega)]
    exact a1 k hk
  · rw [c2.1 144 k (by omega) (by omega), sI_na (by decide), sI_na (by decide)]
    exact b1 k hk
  · show m2.2 = m.2
    rw [b3, a3, ← hm0]
    rfl
theorem fanC_f {nb pl L : Nat} (hL : m.1 0 2 = nI L) (hNL : N ≤ L) (hL9 : L ≤ 900) (hF : CX t (setI m 0 2 (nI 0)) (fX6_readFan (nI N) (setI m 0 2 (nI 0))) nb pl) : ∃ m1, fX10_fan (nI N) m = some (-nI 1, m1) ∧ m1.1 0 16 = nI 4 ∧ m1.1 1 8 = nI nb ∧ m1.1 1 9 = nI pl ∧ m1.1 0 2 = (if t ≤ 0 ∧ 0 ≤ t + 38 then m1.1 0 2 else nI 0) ∧ (∀ x j, x ≠ 1 → ¬ (t ≤ x ∧ x ≤ t + 38) → ¬ (x = 0 ∧ (j = 2 ∨ j = 16)) → m1.1 x j = m.1 x j) ∧ m1.2 = m.2 := by
  obtain ⟨mc, e, q1, q2, q3, q4⟩ := hF
  refine ⟨setI mc 0 16 (nI 4), ?_, sI_eq _ _ _ _, (sI_na (by decide)).trans q1, (sI_na (by decide)).trans q2, ?_, fun x j z1 z2 z3 => ?_, q4⟩
  · unfold fX10_fan
    rw [if_neg (show ¬ nI N < (0 : Int32) from fun q => by have := (zs_lt (a := N) (b := 0) (by omega) (by omega)).mp q; omega), hL, if_pos ((zs_le (by omega) (by omega)).mpr hNL)]
    refine (cl2_e e).trans ?_
    rfl
  · by_cases q : t ≤ 0 ∧ 0 ≤ t + 38
    · rw [if_pos q]
    · rw [if_neg q, sI_nj (by decide), q3 0 2 (by omega) q, sI_eq]
  · rw [sI_1, if_neg (by omega), q3 x j z1 z2, sI_1, if_neg (by omega)]
theorem fanC_s {L t0 : Nat} {mc : Me} {a' n' κ' : Nat} (ht : t = 3 ∨ t = 42) (h0 : rr m 0 3 = t0) (h2 : rr m 1 2 = t) (hL : m.1 0 2 = nI L) (hNL : N ≤ L) (hL9 : L ≤ 900) (hF : fX6_readFan (nI N) (setI m 0 2 (nI 0)) = some (nI 1, mc)) (hC : RC (setI m 0 2 (nI 0)) mc t N b a' n' κ' true r s) (hR : RP true r s) : ∃ m1, fX10_fan (nI N) m = some (nI (z_mo r + 1), m1) ∧ m1.1 0 16 = nI 0 ∧ m1.1 0 2 = nI 0 ∧ m1.1 0 4 = nI 1 ∧ m1.1 0 7 = nI 0 ∧ m1.1 84 3 = nI 0 ∧ CT m1 t r ∧ CPs m1 81 r s ∧ SC m1 r ∧ m1.1 1 8 = nI 0 ∧ rr m1 0 3 = t ∧ rr m1 1 2 = t0 ∧ ∀ x j, 138 ≤ x → m1.1 x j = m.1 x j := by
  obtain ⟨⟨fr1, fr2⟩, hLc, h3, h8, hCT, h4, hP⟩ := hC
  obtain ⟨hK, hKs, -⟩ := hR.2 rfl
  have hf := hK.1
  have e0 : rr mc 0 3 = t0 := by
    rw [← h0]
    unfold Jvm.Pilot.CFanPartsLaw_law_r1864_615eae.rr
    rw [fr2]
    rfl
  have e2 : rr mc 1 2 = t := by
    rw [← h2]
    unfold Jvm.Pilot.CFanPartsLaw_law_r1864_615eae.rr
    rw [fr2]
    rfl
  generalize hmA : setI (setR (setR mc 1 2 (some t0)) 0 3 (some t)) 0 4 (nI 1) = mA
  have rA0 : rr mA 0 3 = t := by rw [← hmA]; rfl
  have rA2 : rr mA 1 2 = t0 := by rw [← hmA]; rfl
  have fA : ∀ x j, ¬ (x = 0 ∧ j = 4) → mA.1 x j = mc.1 x j := fun x j z => by
    rw [← hmA, sI_1, if_neg z]
    rfl
  have fA4 : mA.1 0 4 = nI 1 := by rw [← hmA, sI_eq]
  obtain ⟨m16, e16, p1, p2, p3, p4, p5⟩ := cf_e (m := mA) (a0 := 81) (a1 := t + 1) (by omega) (by omega) (by omega)
  generalize hmB : setI (setI m16 84 3 (nI 0)) 0 7 (nI 0) = mB
  have fB : ∀ x j, ¬ (x = 84 ∧ j = 3) → ¬ (x = 0 ∧ j = 7) → mB.1 x j = m16.1 x j := fun x j z1 z2 => by
    rw [← hmB, sI_1, if_neg z2, sI_1, if_neg z1]
  have fBc : ∀ x j, t ≤ x → x ≤ t + 38 → mB.1 x j = mc.1 x j := fun x j z1 z2 => by
    rw [fB x j (by omega) (by omega), p2 x j (by omega) (by omega), fA x j (by omega)]
  have hCTB : CT mB t r := hCT.cg hK (fun x j z1 z2 => fBc x j z1 z2)
  have hPB : CPs mB (t + 1) r s := hP.cg (fun x j z => fBc x j (by omega) (by omega))
  obtain ⟨m23, e23, q1, q2, q3⟩ := study_e ht hK hCTB hPB.1
  have rB : mB.2 = mA.2 := by
    rw [← hmB]
    show m16.2 = mA.2
    exact p1
  have r16 : rr (setI m16 84 3 (nI 0)) 0 3 = t := by
    rw [← rA0]
    unfold Jvm.Pilot.CFanPartsLaw_law_r1864_615eae.rr
    show (m16.2 0 3).getD 0 = _
    rw [p1]
  have r23 : rr m23 0 3 = t := by
    rw [← rA0]
    unfold Jvm.Pilot.CFanPartsLaw_law_r1864_615eae.rr
    rw [q3, rB]
  have hCT23 : CT m23 t r := hCTB.cg hK (fun x j z1 z2 => q2 x j (by omega) (by omega) (by omega))
  have eo := fX2_openings_e hCT23.1 hf
  refine ⟨setI m23 0 16 (nI 0), ?_, sI_eq _ _ _ _, ?_, ?_, ?_, ?_, hCT23.cg hK (fun x j z1 z2 => sI_na (by omega)), ?_, q1.cg (fun x j z1 z2 => sI_na (by omega)), ?_, r23, ?_, fun x j z => ?_⟩
  · unfold fX10_fan
    rw [if_neg (show ¬ nI N < (0 : Int32) from fun q => by have := (zs_lt (a := N) (b := 0) (by omega) (by omega)).mp q; omega), hL, if_pos ((zs_le (by omega) (by omega)).mpr hNL)]
    refine (cl2_e hF).trans ?_
    rw [if_neg (by decide), e0]
    have eex : fX6_exchange t0 mc = some (t, setR mc 1 2 (some t0)) := by
      unfold fX6_exchange
      rw [e2]
    refine (cl2_e eex).trans ?_
    have er : rr (setR (setR mc 1 2 (some t0)) 0 3 (some t)) 0 3 = t := rfl
    rw [er]
    have e16' : fX5_copyFrom 81 (t + 1) (setI (setR (setR mc 1 2 (some t0)) 0 3 (some t)) 0 4 (1 : Int32)) = some m16 := by
      rw [← e16, ← hmA]
      rfl
    refine (cl1_e e16').trans ?_
    have ef : fX0_forget m16 = some (setI m16 84 3 (nI 0)) := rfl
    refine (cl1_e ef).trans ?_
    rw [r16]
    have e23' : fX9_study t 88 (setI (setI m16 84 3 (nI 0)) 0 7 (0 : Int32)) = some m23 := by
      rw [← e23, ← hmB]
      rfl
    refine (cl1_e e23').trans ?_
    rw [r23]
    refine (cl2_e eo).trans ?_
    rfl
  · rw [sI_nj (by decide), q2 0 2 (by omega) (by omega) (by omega), fB 0 2 (by omega) (by omega), p2 0 2 (by omega) (by omega), fA 0 2 (by omega), fr1 0 2 (by omega) (by omega), sI_eq]
  · rw [sI_nj (by decide), q2 0 4 (by omega) (by omega) (by omega), fB 0 4 (by omega) (by omega), p2 0 4 (by omega) (by omega), fA4]
  · rw [sI_nj (by decide), q2 0 7 (by omega) (by omega) (by omega), ← hmB, sI_eq]
  · rw [sI_na (by decide), q2 84 3 (by omega) (by omega) (by omega), ← hmB, sI_na (by decide), sI_eq]
  · have hP81 : CPs m16 81 r s := (hP.cg (m' := mA) (fun x j z => fA x j (by omega))).mv p3 p4 p5 hf
    exact ((hP81.cg (m' := mB) (fun x j z => fB x j (by omega) (by omega))).cg (m' := m23) (fun x j z => q2 x j (by omega) (by omega) (by omega))).cg (fun x j z => sI_na (by omega))
  · rw [sI_na (by decide), q2 1 8 (by omega) (by omega) (by omega), fB 1 8 (by omega) (by omega), p2 1 8 (by omega) (by omega), fA 1 8 (by omega)]
    exact h8
  · rw [← rA2]
    unfold Jvm.Pilot.CFanPartsLaw_law_r1864_615eae.rr
    show (m23.2 1 2).getD 0 = _
    rw [q3, rB]
  · rw [sI_na (by omega), q2 x j (by omega) (by omega) (by omega), fB x j (by omega) (by omega), p2 x j (by omega) (by omega), fA x j (by omega), fr1 x j (by omega) (by omega), sI_na (by omega)]
end FAN
