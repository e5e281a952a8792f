/-! mendAll: the class's search, and both -/
section MA5
variable {m : Me} {H : Bool} {t : Nat} {r s : Nat → Nat} {x1 x2 x3 x4 : Int32}
theorem NB.w9 {e d g l : Nat} {N B : Nat → Option Nat} (hf : z_fan r) (h : NB m r e N B) (hg : g < 30) (hv : vx r g) (hl : l ≤ 25) (hd : d < 4) : NB (setI (setI m 99 (z_cc r g) (nI l)) 100 (z_cc r g) (nI d)) r e (updU N (30 * e + g) l) (updU B g d) := by
  intro x hx vxx
  by_cases q : x = g
  · subst q
    unfold updU
    rw [if_pos rfl, if_pos rfl]
    refine ⟨(sI_na (by decide)).trans (sI_eq _ _ _ _), sI_eq _ _ _ _, fun l' z => ?_, fun q z => ?_, ?_⟩
    · have := Option.some.inj z; omega
    · have := Option.some.inj z; omega
    · exact ⟨fun z => (by cases z), fun z => (by cases z)⟩
  · have qc : z_cc r x ≠ z_cc r g := fun z => q (cc_inj hf vxx hv z)
    unfold updU
    rw [if_neg (show ¬ 30 * e + x = 30 * e + g by omega), if_neg q, sI_na (by decide), sI_nj qc, sI_nj qc, sI_na (by decide)]
    exact h x hx vxx
theorem cl21 (hO : KO r s) {e i d p : Nat} {is : List Nat} (his : ∀ d, d < is.length → is.getD d 0 < r 6 ∧ r (100 + is.getD d 0) = e) (hd : d < is.length) (hl4 : is.length ≤ 4) (hid : is.getD d 0 = i) (hp : p + r (64 + i) ≤ (zWs r s i).length) {N0 B0 : Nat → Option Nat} : ∀ j k n nn N B (m : Me), KC m t r s → GS m t r s e is → NB m r e N B → RlB r s e i p d 0 N0 B0 N B → k + j = r (64 + i) → nn ≤ k → j < n → ∃ m' V N' B', fX3_claim_21 n (nI d) (nI p) (102 + 5 * d) (t + 19 + 2 * i) (nI nn) (nI k) m = some (V, m') ∧ Fc m m' ∧ m'.1 96 6 = m.1 96 6 ∧ NB m' r e N' B' ∧ RlB r s e i p d 0 N0 B0 N' B' ∧ ((∃ n', mclm r s i p k j N nn = some (N', n') ∧ V = nI n' ∧ n' ≤ 8) ∨ (mclm r s i p k j N nn = none ∧ V = -nI 1)) := by
  intro j
  induction j with
  | zero =>
    intro k n nn N B m h hG hN hR hk hnn hn
    obtain ⟨n, rfl⟩ : ∃ n', n = n' + 1 := ⟨n - 1, by omega⟩
    have hw := hG.gw h his hd
    rw [hid] at hw
    obtain ⟨f1, f2⟩ := hw.sy
    have o8 := (hO.1.i hw.1).2.2.1
    refine ⟨m, nI nn, N, B, ?_, Fc.rf m, rfl, hN, hR, Or.inl ⟨nn, rfl, rfl, by omega⟩⟩
    rw [fX3_claim_21]
    simp (disch := omega) only [f1, cl2_so, cl1_so, ck_tr, zl_0, zl_1, zl_2, zl_3, zl_4, zl_5, zl_6, zl_7, zl_8, zl_9, zl_10, zl_11, zl_12, zl_15, zl_16, zl_20, zl_24, zl_25, zl_30, zl_31, zl_32, zl_33, zl_44, zl_48, zl_50, zl_57, zl_59, zl_60, zl_61, zl_62, zl_63, zl_64, zl_68, zl_97, zl_99, zl_100, zl_104, zl_108, zl_114, zl_120, zl_122, zl_126, zl_132, zl_180, zl_181, zl_186, zl_255, zl_900, zl_930, zl_1000, zl_1000000, nI_add, pk_mul, zs_sub, zs_lt, zs_le, zs_eq, zs_inb, zs_cl, zm_eq, zm_eq2, zm_lt, zm_le, mz_lt, mz_le, mm_eq, zs_bit, zs_or1, zs_div, zs_rem, ck_pos, if_pos, if_neg, true_or, or_true, true_and, and_true, false_or, or_false, false_and, and_false, not_true, not_false_iff, if_true, if_false, eq_self, Bool.false_eq_true, cl2_id, Bool.not_true, Bool.not_false]
  | succ j ih =>
    intro k n nn N B m h hG hN hR hk hnn hn
    obtain ⟨n, rfl⟩ : ∃ n', n = n' + 1 := ⟨n - 1, by omega⟩
    have hw := hG.gw h his hd
    rw [hid] at hw
    obtain ⟨f1, f2⟩ := hw.sy
    obtain ⟨hi, he, er, -, g1, g2⟩ := hw
    obtain ⟨h6, o1, o8, oS, oO, oL⟩ := hO.1.i hi
    obtain ⟨hL, hl⟩ := zWs_ok hO hi
    have ht := h.tt
    obtain ⟨e1, e2⟩ := g2 (p + k) (by omega)
    have hvg := zWs_vx hO hi (k := p + k) (by omega)
    have hg30 := hl (p + k) (by omega)
    have ecl : mcl r s i p k = 30 * e + (zWs r s i).getD (p + k) 0 := by unfold mcl; rw [he]
    have e3 := f2 k (by omega)
    have bl : mlt r i k ≤ 25 := oL k (by omega)
    have hs := hO.2.1 _ (mcl_lt hO hi (p := p) (k := k) (by omega))
    rw [ecl] at hs
    have hRg : ∀ x, x = (zWs r s i).getD (p + k) 0 → ∃ q, 0 ≤ q ∧ q < r (64 + i) ∧ x = (zWs r s i).getD (p + q) 0 := fun x hx => ⟨k, by omega, by omega, hx⟩
    generalize (zWs r s i).getD (p + k) 0 = g at e1 e2 hvg hg30 ecl hs hRg
    have hcc := cc_lt hO.1.1 hvg
    obtain ⟨n1, n2, n3, n4, n5⟩ := hN g hg30 hvg
    rw [fX3_claim_21]
    unfold fX3_claim_103 fX3_claim_129
    cases hNg : N (30 * e + g) with
    | none =>
      have hBg := n5.mp hNg
      rw [hNg] at n1
      simp only [uN] at n1
      have hNB1 := hN.w9 hO.1.1 hg30 hvg bl (show d < 4 by omega)
      have p1 : Fc m (setI (setI m 99 (z_cc r g) (nI (mlt r i k))) 100 (z_cc r g) (nI d)) := ((Fc.rf m).s9 _).s0 _
      have hR1 : RlB r s e i p d 0 N0 B0 (updU N (30 * e + g) (mlt r i k)) (updU B g d) := by
        intro x hx hvx
        obtain ⟨r1, r2⟩ := hR x hx hvx
        unfold updU
        by_cases q : x = g
        · rw [if_pos q]
          subst q
          refine ⟨fun z => ?_, fun z => Or.inr ⟨rfl, hRg x rfl⟩⟩
          have := (r1 z).1
          rw [hBg] at this
          exact absurd this.symm z
        · rw [if_neg q, if_neg (show ¬ 30 * e + x = 30 * e + g by omega)]
          exact ⟨r1, r2⟩
      have c1 : (setI (setI m 99 (z_cc r g) (nI (mlt r i k))) 100 (z_cc r g) (nI d)).1 (102 + 5 * d + 2) (p + k) = nI (s (30 * e + g)) := ((sI_na (by omega)).trans (sI_na (by omega))).trans e2
      have c2 : (setI (setI m 99 (z_cc r g) (nI (mlt r i k))) 100 (z_cc r g) (nI d)).1 (t + 19 + 2 * i + 1) k = nI (mlt r i k) := ((sI_na (by omega)).trans (sI_na (by omega))).trans e3
      by_cases hv : s (30 * e + g) = mlt r i k
      · obtain ⟨m2, V, N', B', i1, i2, i3, i4, i5, i6⟩ := ih (k + 1) n nn _ _ _ (h.ag hO p1.1.agC) (hG.fc p1) hNB1 hR1 (by omega) (by omega) (by omega)
        refine ⟨m2, V, N', B', ?_, p1.tr i2, i3.trans ?_, i4, i5, ?_⟩
        · simp (disch := omega) only [f1, e1, n1, e3, c1, c2, hv, Nat.add_zero, cl2_so, cl1_so, ck_tr, zl_0, zl_1, zl_2, zl_3, zl_4, zl_5, zl_6, zl_7, zl_8, zl_9, zl_10, zl_11, zl_12, zl_15, zl_16, zl_20, zl_24, zl_25, zl_30, zl_31, zl_32, zl_33, zl_44, zl_48, zl_50, zl_57, zl_59, zl_60, zl_61, zl_62, zl_63, zl_64, zl_68, zl_97, zl_99, zl_100, zl_104, zl_108, zl_114, zl_120, zl_122, zl_126, zl_132, zl_180, zl_181, zl_186, zl_255, zl_900, zl_930, zl_1000, zl_1000000, nI_add, pk_mul, zs_sub, zs_lt, zs_le, zs_eq, zs_inb, zs_cl, zm_eq, zm_eq2, zm_lt, zm_le, mz_lt, mz_le, mm_eq, zs_bit, zs_or1, zs_div, zs_rem, ck_pos, if_pos, if_neg, true_or, or_true, true_and, and_true, false_or, or_false, false_and, and_false, not_true, not_false_iff, if_true, if_false, eq_self, Bool.false_eq_true, cl2_id, Bool.not_true, Bool.not_false]
          exact i1
        · rw [sI_na (by decide), sI_na (by decide)]
        · rw [mclm, ecl, hNg]
          simp only [hv, if_true, Nat.add_zero]
          exact i6
      · obtain ⟨m2, V, N', B', i1, i2, i3, i4, i5, i6⟩ := ih (k + 1) n (nn + 1) _ _ _ (h.ag hO p1.1.agC) (hG.fc p1) hNB1 hR1 (by omega) (by omega) (by omega)
        refine ⟨m2, V, N', B', ?_, p1.tr i2, i3.trans ?_, i4, i5, ?_⟩
        · simp (disch := omega) only [f1, e1, n1, e3, c1, c2, hv, cl2_so, cl1_so, ck_tr, zl_0, zl_1, zl_2, zl_3, zl_4, zl_5, zl_6, zl_7, zl_8, zl_9, zl_10, zl_11, zl_12, zl_15, zl_16, zl_20, zl_24, zl_25, zl_30, zl_31, zl_32, zl_33, zl_44, zl_48, zl_50, zl_57, zl_59, zl_60, zl_61, zl_62, zl_63, zl_64, zl_68, zl_97, zl_99, zl_100, zl_104, zl_108, zl_114, zl_120, zl_122, zl_126, zl_132, zl_180, zl_181, zl_186, zl_255, zl_900, zl_930, zl_1000, zl_1000000, nI_add, pk_mul, zs_sub, zs_lt, zs_le, zs_eq, zs_inb, zs_cl, zm_eq, zm_eq2, zm_lt, zm_le, mz_lt, mz_le, mm_eq, zs_bit, zs_or1, zs_div, zs_rem, ck_pos, if_pos, if_neg, true_or, or_true, true_and, and_true, false_or, or_false, false_and, and_false, not_true, not_false_iff, if_true, if_false, eq_self, Bool.false_eq_true, cl2_id, Bool.not_true, Bool.not_false]
          exact i1
        · rw [sI_na (by decide), sI_na (by decide)]
        · rw [mclm, ecl, hNg]
          simp only [hv, if_false]
          exact i6
    | some l =>
      have hl25 := n3 l hNg
      rw [hNg] at n1
      simp only [uN] at n1
      by_cases hv : l = mlt r i k
      · obtain ⟨m2, V, N', B', i1, i2, i3, i4, i5, i6⟩ := ih (k + 1) n nn N B m h hG hN hR (by omega) (by omega) (by omega)
        refine ⟨m2, V, N', B', ?_, i2, i3, i4, i5, ?_⟩
        · simp (disch := omega) only [f1, e1, n1, e3, hv, cl2_so, cl1_so, ck_tr, zl_0, zl_1, zl_2, zl_3, zl_4, zl_5, zl_6, zl_7, zl_8, zl_9, zl_10, zl_11, zl_12, zl_15, zl_16, zl_20, zl_24, zl_25, zl_30, zl_31, zl_32, zl_33, zl_44, zl_48, zl_50, zl_57, zl_59, zl_60, zl_61, zl_62, zl_63, zl_64, zl_68, zl_97, zl_99, zl_100, zl_104, zl_108, zl_114, zl_120, zl_122, zl_126, zl_132, zl_180, zl_181, zl_186, zl_255, zl_900, zl_930, zl_1000, zl_1000000, nI_add, pk_mul, zs_sub, zs_lt, zs_le, zs_eq, zs_inb, zs_cl, zm_eq, zm_eq2, zm_lt, zm_le, mz_lt, mz_le, mm_eq, zs_bit, zs_or1, zs_div, zs_rem, ck_pos, if_pos, if_neg, true_or, or_true, true_and, and_true, false_or, or_false, false_and, and_false, not_true, not_false_iff, if_true, if_false, eq_self, Bool.false_eq_true, cl2_id, Bool.not_true, Bool.not_false]
          exact i1
        · rw [mclm, ecl, hNg]
          simp only [hv, if_true]
          exact i6
      · refine ⟨m, -nI 1, N, B, ?_, Fc.rf m, rfl, hN, hR, Or.inr ⟨?_, rfl⟩⟩
        · simp (disch := omega) only [f1, e1, n1, e3, hv, cl2_so, cl1_so, ck_tr, zl_0, zl_1, zl_2, zl_3, zl_4, zl_5, zl_6, zl_7, zl_8, zl_9, zl_10, zl_11, zl_12, zl_15, zl_16, zl_20, zl_24, zl_25, zl_30, zl_31, zl_32, zl_33, zl_44, zl_48, zl_50, zl_57, zl_59, zl_60, zl_61, zl_62, zl_63, zl_64, zl_68, zl_97, zl_99, zl_100, zl_104, zl_108, zl_114, zl_120, zl_122, zl_126, zl_132, zl_180, zl_181, zl_186, zl_255, zl_900, zl_930, zl_1000, zl_1000000, nI_add, pk_mul, zs_sub, zs_lt, zs_le, zs_eq, zs_inb, zs_cl, zm_eq, zm_eq2, zm_lt, zm_le, mz_lt, mz_le, mm_eq, zs_bit, zs_or1, zs_div, zs_rem, ck_pos, if_pos, if_neg, true_or, or_true, true_and, and_true, false_or, or_false, false_and, and_false, not_true, not_false_iff, if_true, if_false, eq_self, Bool.false_eq_true, cl2_id, Bool.not_true, Bool.not_false]
        · rw [mclm, ecl, hNg]
          simp only [hv, if_false]
theorem re2 (hO : KO r s) {e i d p : Nat} {is : List Nat} (his : ∀ d, d < is.length → is.getD d 0 < r 6 ∧ r (100 + is.getD d 0) = e) (hd : d < is.length) (hl4 : is.length ≤ 4) (hid : is.getD d 0 = i) (hp : p + r (64 + i) ≤ (zWs r s i).length) {N0 B0 : Nat → Option Nat} (h0 : ∀ x, x < 30 → vx r x → (∀ l, N0 (30 * e + x) = some l → l ≤ 25) ∧ (∀ q, B0 x = some q → q < d) ∧ (N0 (30 * e + x) = none ↔ B0 x = none)) : ∀ j k n N B (m : Me), KC m t r s → GS m t r s e is → NB m r e N B → RlB r s e i p d k N0 B0 N B → k + j = r (64 + i) → j < n → ∃ m', fX3_release_2 n (nI d) (nI p) (nI k) m = some m' ∧ Fc m m' ∧ m'.1 96 6 = m.1 96 6 ∧ NB m' r e N0 B0 := by
  intro j
  induction j with
  | zero =>
    intro k n N B m h hG hN hR hk hn
    obtain ⟨n, rfl⟩ : ∃ n', n = n' + 1 := ⟨n - 1, by omega⟩
    have hw := hG.gw h his hd
    rw [hid] at hw
    obtain ⟨f1, f2⟩ := hw.sy
    obtain ⟨hi, he, er, -, g1, g2⟩ := hw
    obtain ⟨h6, o1, o8, oS, oO, oL⟩ := hO.1.i hi
    refine ⟨m, ?_, Fc.rf m, rfl, fun x hx hvx => ?_⟩
    · rw [fX3_release_2]
      simp (disch := omega) only [er, f1, cl2_so, cl1_so, ck_tr, zl_0, zl_1, zl_2, zl_3, zl_4, zl_5, zl_6, zl_7, zl_8, zl_9, zl_10, zl_11, zl_12, zl_15, zl_16, zl_20, zl_24, zl_25, zl_30, zl_31, zl_32, zl_33, zl_44, zl_48, zl_50, zl_57, zl_59, zl_60, zl_61, zl_62, zl_63, zl_64, zl_68, zl_97, zl_99, zl_100, zl_104, zl_108, zl_114, zl_120, zl_122, zl_126, zl_132, zl_180, zl_181, zl_186, zl_255, zl_900, zl_930, zl_1000, zl_1000000, nI_add, pk_mul, zs_sub, zs_lt, zs_le, zs_eq, zs_inb, zs_cl, zm_eq, zm_eq2, zm_lt, zm_le, mz_lt, mz_le, mm_eq, zs_bit, zs_or1, zs_div, zs_rem, ck_pos, if_pos, if_neg, true_or, or_true, true_and, and_true, false_or, or_false, false_and, and_false, not_true, not_false_iff, if_true, if_false, eq_self, Bool.false_eq_true, cl2_id, Bool.not_true, Bool.not_false]
    · obtain ⟨n1, n2, n3, n4, n5⟩ := hN x hx hvx
      obtain ⟨b1, b2, b3⟩ := h0 x hx hvx
      obtain ⟨r1, r2⟩ := hR x hx hvx
      refine ⟨?_, ?_, b1, fun q z => by have := b2 q z; omega, b3⟩
      · rw [n1]
        cases hb : B0 x with
        | none =>
          rcases r2 hb with ⟨_, z⟩ | ⟨_, q, _, _, _⟩
          · rw [z, b3.mpr hb]
          · omega
        | some y => rw [(r1 (by rw [hb]; intro z; cases z)).2]
      · rw [n2]
        cases hb : B0 x with
        | none =>
          rcases r2 hb with ⟨z, _⟩ | ⟨_, q, _, _, _⟩
          · rw [z]
          · omega
        | some y => rw [(r1 (by rw [hb]; intro z; cases z)).1, hb]
  | succ j ih =>
    intro k n N B m h hG hN hR hk hn
    obtain ⟨n, rfl⟩ : ∃ n', n = n' + 1 := ⟨n - 1, by omega⟩
    have hw := hG.gw h his hd
    rw [hid] at hw
    obtain ⟨f1, f2⟩ := hw.sy
    obtain ⟨hi, he, er, -, g1, g2⟩ := hw
    obtain ⟨h6, o1, o8, oS, oO, oL⟩ := hO.1.i hi
    obtain ⟨hL, hl⟩ := zWs_ok hO hi
    obtain ⟨e1, -⟩ := g2 (p + k) (by omega)
    have hvg := zWs_vx hO hi (k := p + k) (by omega)
    have hg30 := hl (p + k) (by omega)
    have hkq : ∀ q x, k ≤ q → x = (zWs r s i).getD (p + q) 0 → x ≠ (zWs r s i).getD (p + k) 0 → k + 1 ≤ q := by
      intro q x a b c
      rcases Nat.eq_or_lt_of_le a with z | z
      · subst z; exact absurd b c
      · omega
    generalize (zWs r s i).getD (p + k) 0 = g at e1 hvg hg30 hkq
    have hcc := cc_lt hO.1.1 hvg
    obtain ⟨n1, n2, n3, n4, n5⟩ := hN g hg30 hvg
    obtain ⟨b1, b2, b3⟩ := h0 g hg30 hvg
    rw [fX3_release_2]
    unfold fX3_release_57
    by_cases hBd : B g = some d
    · have hB0 : B0 g = none := by
        cases hb : B0 g with
        | none => rfl
        | some y =>
          have := ((hR g hg30 hvg).1 (by rw [hb]; intro z; cases z)).1
          rw [hBd, hb] at this
          have := Option.some.inj this
          have := b2 y hb
          omega
      have p1 : Fc m (setI (setI m 99 (z_cc r g) (-nI 1)) 100 (z_cc r g) (-nI 1)) := ((Fc.rf m).s9 _).s0 _
      obtain ⟨m2, i1, i2, i3, i4⟩ := ih (k + 1) n (fun c => if c = 30 * e + g then none else N c) (fun x => if x = g then none else B x) _ (h.ag hO p1.1.agC) (hG.fc p1) (fun x hx hvx => by
        by_cases q : x = g
        · subst q
          dsimp only
          rw [if_pos rfl, if_pos rfl]
          exact ⟨(sI_na (by decide)).trans (sI_eq _ _ _ _), sI_eq _ _ _ _, fun l z => (by cases z), fun q z => (by cases z), ⟨fun _ => rfl, fun _ => rfl⟩⟩
        · have qc : z_cc r x ≠ z_cc r g := fun z => q (cc_inj hO.1.1 hvx hvg z)
          dsimp only
          rw [if_neg (show ¬ 30 * e + x = 30 * e + g by omega), if_neg q, sI_na (by decide), sI_nj qc, sI_nj qc, sI_na (by decide)]
          exact hN x hx hvx) (fun x hx hvx => by
        obtain ⟨r1, r2⟩ := hR x hx hvx
        dsimp only
        by_cases q : x = g
        · rw [if_pos q]
          subst q
          rw [if_pos rfl]
          exact ⟨fun z => absurd hB0 z, fun _ => Or.inl ⟨rfl, rfl⟩⟩
        · rw [if_neg q, if_neg (show ¬ 30 * e + x = 30 * e + g by omega)]
          refine ⟨r1, fun z => ?_⟩
          rcases r2 z with w | ⟨w1, q', w2, w3, w4⟩
          · exact Or.inl w
          · exact Or.inr ⟨w1, q', hkq q' x w2 w4 q, w3, w4⟩) (by omega) (by omega)
      refine ⟨m2, ?_, p1.tr i2, i3.trans ?_, i4⟩
      · rw [hBd] at n2
        simp only [uN] at n2
        simp (disch := omega) only [er, f1, e1, n2, cl2_so, cl1_so, ck_tr, zl_0, zl_1, zl_2, zl_3, zl_4, zl_5, zl_6, zl_7, zl_8, zl_9, zl_10, zl_11, zl_12, zl_15, zl_16, zl_20, zl_24, zl_25, zl_30, zl_31, zl_32, zl_33, zl_44, zl_48, zl_50, zl_57, zl_59, zl_60, zl_61, zl_62, zl_63, zl_64, zl_68, zl_97, zl_99, zl_100, zl_104, zl_108, zl_114, zl_120, zl_122, zl_126, zl_132, zl_180, zl_181, zl_186, zl_255, zl_900, zl_930, zl_1000, zl_1000000, nI_add, pk_mul, zs_sub, zs_lt, zs_le, zs_eq, zs_inb, zs_cl, zm_eq, zm_eq2, zm_lt, zm_le, mz_lt, mz_le, mm_eq, zs_bit, zs_or1, zs_div, zs_rem, ck_pos, if_pos, if_neg, true_or, or_true, true_and, and_true, false_or, or_false, false_and, and_false, not_true, not_false_iff, if_true, if_false, eq_self, Bool.false_eq_true, cl2_id, Bool.not_true, Bool.not_false]
        exact i1
      · rw [sI_na (by decide), sI_na (by decide)]
    · obtain ⟨m2, i1, i2, i3, i4⟩ := ih (k + 1) n N B m h hG hN (fun x hx hvx => by
        obtain ⟨r1, r2⟩ := hR x hx hvx
        refine ⟨r1, fun z => ?_⟩
        rcases r2 z with w | ⟨w1, q', w2, w3, w4⟩
        · exact Or.inl w
        · refine Or.inr ⟨w1, q', hkq q' x w2 w4 (fun q => ?_), w3, w4⟩
          subst q
          exact hBd w1) (by omega) (by omega)
      refine ⟨m2, ?_, i2, i3, i4⟩
      cases hb : B g with
      | none =>
        rw [hb] at n2
        simp only [uN] at n2
        simp (disch := omega) only [er, f1, e1, n2, cl2_so, cl1_so, ck_tr, zl_0, zl_1, zl_2, zl_3, zl_4, zl_5, zl_6, zl_7, zl_8, zl_9, zl_10, zl_11, zl_12, zl_15, zl_16, zl_20, zl_24, zl_25, zl_30, zl_31, zl_32, zl_33, zl_44, zl_48, zl_50, zl_57, zl_59, zl_60, zl_61, zl_62, zl_63, zl_64, zl_68, zl_97, zl_99, zl_100, zl_104, zl_108, zl_114, zl_120, zl_122, zl_126, zl_132, zl_180, zl_181, zl_186, zl_255, zl_900, zl_930, zl_1000, zl_1000000, nI_add, pk_mul, zs_sub, zs_lt, zs_le, zs_eq, zs_inb, zs_cl, zm_eq, zm_eq2, zm_lt, zm_le, mz_lt, mz_le, mm_eq, zs_bit, zs_or1, zs_div, zs_rem, ck_pos, if_pos, if_neg, true_or, or_true, true_and, and_true, false_or, or_false, false_and, and_false, not_true, not_false_iff, if_true, if_false, eq_self, Bool.false_eq_true, cl2_id, Bool.not_true, Bool.not_false]
        exact i1
      | some y =>
        have hy : ¬ y = d := fun z => hBd (by rw [hb, z])
        have hy4 := n4 y hb
        rw [hb] at n2
        simp only [uN] at n2
        simp (disch := omega) only [er, f1, e1, n2, hy, cl2_so, cl1_so, ck_tr, zl_0, zl_1, zl_2, zl_3, zl_4, zl_5, zl_6, zl_7, zl_8, zl_9, zl_10, zl_11, zl_12, zl_15, zl_16, zl_20, zl_24, zl_25, zl_30, zl_31, zl_32, zl_33, zl_44, zl_48, zl_50, zl_57, zl_59, zl_60, zl_61, zl_62, zl_63, zl_64, zl_68, zl_97, zl_99, zl_100, zl_104, zl_108, zl_114, zl_120, zl_122, zl_126, zl_132, zl_180, zl_181, zl_186, zl_255, zl_900, zl_930, zl_1000, zl_1000000, nI_add, pk_mul, zs_sub, zs_lt, zs_le, zs_eq, zs_inb, zs_cl, zm_eq, zm_eq2, zm_lt, zm_le, mz_lt, mz_le, mm_eq, zs_bit, zs_or1, zs_div, zs_rem, ck_pos, if_pos, if_neg, true_or, or_true, true_and, and_true, false_or, or_false, false_and, and_false, not_true, not_false_iff, if_true, if_false, eq_self, Bool.false_eq_true, cl2_id, Bool.not_true, Bool.not_false]
        exact i1
def GoC (t : Nat) (r s : Nat → Nat) (e : Nat) (is : List Nat) (d : Nat) (rec : Int32 → Int32 → Me → Option Me) : Prop := ∀ spent o N B (m : Me), KC m t r s → GS m t r s e is → RS m r s is 0 → NB m r e N B → (∀ x, x < 30 → vx r x → ∀ q, B x = some q → q < d) → (∀ c l, N c = some l → (ahA r is d).testBit l = true) → spent ≤ 8 * d → (∀ x, o = some x → x ≤ 32) → m.1 96 6 = nI (o.getD 33) → ∃ m', rec (nI d) (nI spent) m = some m' ∧ Fc m m' ∧ NB m' r e N B ∧ m'.1 96 6 = nI ((omin o (oad spent (mbl r s (is.drop d) N))).getD 33)
theorem RS.fc {m' : Me} {is : List Nat} {k : Nat} (h : RS m r s is k) (hF : Fc m m') : RS m' r s is k := fun d a b => (hF.2.1 _ _ (by decide) (by decide) (by omega)).trans (h d a b)
theorem omin_ge2 {o G : Option Nat} {c R : Nat} (h1 : o.getD 33 ≤ c + R) (h2 : ∀ y, G = some y → R ≤ y ∧ c + y ≤ 32) : omin o (oad c G) = o := by
  cases G with
  | none => exact omin_n o
  | some y =>
    obtain ⟨a, b⟩ := h2 y rfl
    cases o with
    | none =>
      have : (33 : Nat) ≤ c + R := h1
      omega
    | some x =>
      have : x ≤ c + R := h1
      show some _ = some _
      congr 1
      split <;> omega
theorem tp62 (hO : KO r s) {e i d : Nat} {is : List Nat} (his : ∀ d, d < is.length → is.getD d 0 < r 6 ∧ r (100 + is.getD d 0) = e) (hd : d < is.length) (hl4 : is.length ≤ 4) (hid : is.getD d 0 = i) {rec : Int32 → Int32 → Me → Option Me} (hrec : GoC t r s e is (d + 1) rec) {spent : Nat} (hsp : spent ≤ 8 * d) {N B : Nat → Option Nat} (hB : ∀ x, x < 30 → vx r x → ∀ q, B x = some q → q < d) (hA : ∀ c l, N c = some l → (ahA r is d).testBit l = true) (hlen : r (64 + i) ≤ (zWs r s i).length) : ∀ j p n o (m : Me), KC m t r s → GS m t r s e is → RS m r s is 0 → NB m r e N B → (∀ x, o = some x → x ≤ 32) → m.1 96 6 = nI (o.getD 33) → p + j = npl r s i → j < n → ∃ m', fX3_tryPlaces_62 rec n (nI d) (nI spent) (nI ((zWs r s i).length - r (64 + i))) (nI p) m = some m' ∧ Fc m m' ∧ NB m' r e N B ∧ m'.1 96 6 = nI ((omin o (oad spent (mpl r s i (mbl r s (is.drop (d + 1))) p j N))).getD 33) := by
  have hii := his d hd
  rw [hid] at hii
  obtain ⟨hi, he⟩ := hii
  obtain ⟨-, o1, o8, oS, oO, oL⟩ := hO.1.i hi
  obtain ⟨hL, hl⟩ := zWs_ok hO hi
  intro j
  induction j with
  | zero =>
    intro p n o m h hG hS hN ho hf hp hn
    obtain ⟨n, rfl⟩ : ∃ n', n = n' + 1 := ⟨n - 1, by omega⟩
    unfold npl at hp
    refine ⟨m, ?_, Fc.rf m, hN, ?_⟩
    · rw [fX3_tryPlaces_62]
      simp (disch := omega) only [cl2_so, cl1_so, ck_tr, zl_0, zl_1, zl_2, zl_3, zl_4, zl_5, zl_6, zl_7, zl_8, zl_9, zl_10, zl_11, zl_12, zl_15, zl_16, zl_20, zl_24, zl_25, zl_30, zl_31, zl_32, zl_33, zl_44, zl_48, zl_50, zl_57, zl_59, zl_60, zl_61, zl_62, zl_63, zl_64, zl_68, zl_97, zl_99, zl_100, zl_104, zl_108, zl_114, zl_120, zl_122, zl_126, zl_132, zl_180, zl_181, zl_186, zl_255, zl_900, zl_930, zl_1000, zl_1000000, nI_add, pk_mul, zs_sub, zs_lt, zs_le, zs_eq, zs_inb, zs_cl, zm_eq, zm_eq2, zm_lt, zm_le, mz_lt, mz_le, mm_eq, zs_bit, zs_or1, zs_div, zs_rem, ck_pos, if_pos, if_neg, true_or, or_true, true_and, and_true, false_or, or_false, false_and, and_false, not_true, not_false_iff, if_true, if_false, eq_self, Bool.false_eq_true, cl2_id, Bool.not_true, Bool.not_false]
    · show _ = nI ((omin o none).getD 33)
      rw [omin_n]
      exact hf
  | succ j ih =>
    intro p n o m h hG hS hN ho hf hp hn
    obtain ⟨n, rfl⟩ : ∃ n', n = n' + 1 := ⟨n - 1, by omega⟩
    have hp' : p + r (64 + i) ≤ (zWs r s i).length := by unfold npl at hp; omega
    have h0 : ∀ x, x < 30 → vx r x → (∀ l, N (30 * e + x) = some l → l ≤ 25) ∧ (∀ q, B x = some q → q < d) ∧ (N (30 * e + x) = none ↔ B x = none) := fun x hx hvx => ⟨(hN x hx hvx).2.2.1, hB x hx hvx, (hN x hx hvx).2.2.2.2⟩
    have hRl : RlB r s e i p d 0 N B N B := fun x hx hvx => ⟨fun _ => ⟨rfl, rfl⟩, fun z => Or.inl ⟨z, (h0 x hx hvx).2.2.mpr z⟩⟩
    obtain ⟨m1, V, N1, B1, f1, f2, f3, f4, f5, f6⟩ := cl21 (t := t) hO his hd hl4 hid hp' (N0 := N) (B0 := B) (r (64 + i)) 0 FU 0 N B m h hG hN hRl (by omega) (by omega) (FU_pos (by omega))
    have er := hG.rr hd
    rw [hid] at er
    have ecl : fX3_claim (nI d) (nI p) m = some (V, m1) := by
      unfold fX3_claim
      simp (disch := omega) only [er, cl2_so, cl1_so, ck_tr, zl_0, zl_1, zl_2, zl_3, zl_4, zl_5, zl_6, zl_7, zl_8, zl_9, zl_10, zl_11, zl_12, zl_15, zl_16, zl_20, zl_24, zl_25, zl_30, zl_31, zl_32, zl_33, zl_44, zl_48, zl_50, zl_57, zl_59, zl_60, zl_61, zl_62, zl_63, zl_64, zl_68, zl_97, zl_99, zl_100, zl_104, zl_108, zl_114, zl_120, zl_122, zl_126, zl_132, zl_180, zl_181, zl_186, zl_255, zl_900, zl_930, zl_1000, zl_1000000, nI_add, pk_mul, zs_sub, zs_lt, zs_le, zs_eq, zs_inb, zs_cl, zm_eq, zm_eq2, zm_lt, zm_le, mz_lt, mz_le, mm_eq, zs_bit, zs_or1, zs_div, zs_rem, ck_pos, if_pos, if_neg, true_or, or_true, true_and, and_true, false_or, or_false, false_and, and_false, not_true, not_false_iff, if_true, if_false, eq_self, Bool.false_eq_true, cl2_id, Bool.not_true, Bool.not_false]
      exact f1
    have hK1 := h.ag hO f2.1.agC
    have hG1 := hG.fc f2
    have hS1 := hS.fc f2
    -- behind a try
    have fin : ∀ (m2 : Me) o2, KC m2 t r s → GS m2 t r s e is → RS m2 r s is 0 → NB m2 r e N1 B1 → m2.1 96 6 = nI (o2.getD 33) → (∀ x, o2 = some x → x ≤ 32) → ∃ m', fX3_tryPlaces_114 rec (fX3_tryPlaces_62 rec n) (nI d) (nI spent) (nI ((zWs r s i).length - r (64 + i))) (nI p) m2 = some m' ∧ Fc m2 m' ∧ NB m' r e N B ∧ m'.1 96 6 = nI ((omin o2 (oad spent (mpl r s i (mbl r s (is.drop (d + 1))) (p + 1) j N))).getD 33) := by
      intro m2 o2 a1 a2 a3 a4 a5 a6
      obtain ⟨m3, i1, i2, i3, i4⟩ := re2 (t := t) hO his hd hl4 hid hp' h0 (r (64 + i)) 0 FU N1 B1 m2 a1 a2 a4 f5 (by omega) (FU_pos (by omega))
      obtain ⟨m4, j1, j2, j3, j4⟩ := ih (p + 1) n o2 m3 (a1.ag hO i2.1.agC) (a2.fc i2) (a3.fc i2) i4 a6 (i3.trans a5) (by omega) (by omega)
      have i1' : fX3_release (nI d) (nI p) m2 = some m3 := i1
      refine ⟨m4, ?_, i2.tr j2, j3, j4⟩
      unfold fX3_tryPlaces_114
      simp (disch := omega) only [i1', cl2_so, cl1_so, ck_tr, zl_0, zl_1, zl_2, zl_3, zl_4, zl_5, zl_6, zl_7, zl_8, zl_9, zl_10, zl_11, zl_12, zl_15, zl_16, zl_20, zl_24, zl_25, zl_30, zl_31, zl_32, zl_33, zl_44, zl_48, zl_50, zl_57, zl_59, zl_60, zl_61, zl_62, zl_63, zl_64, zl_68, zl_97, zl_99, zl_100, zl_104, zl_108, zl_114, zl_120, zl_122, zl_126, zl_132, zl_180, zl_181, zl_186, zl_255, zl_900, zl_930, zl_1000, zl_1000000, nI_add, pk_mul, zs_sub, zs_lt, zs_le, zs_eq, zs_inb, zs_cl, zm_eq, zm_eq2, zm_lt, zm_le, mz_lt, mz_le, mm_eq, zs_bit, zs_or1, zs_div, zs_rem, ck_pos, if_pos, if_neg, true_or, or_true, true_and, and_true, false_or, or_false, false_and, and_false, not_true, not_false_iff, if_true, if_false, eq_self, Bool.false_eq_true, cl2_id, Bool.not_true, Bool.not_false]
      exact j1
    rw [fX3_tryPlaces_62, mpl]
    have hng : ¬ (zWs r s i).length - r (64 + i) < p := by omega
    rcases f6 with ⟨n', q1, q2, q3⟩ | ⟨q1, q2⟩
    · rw [q1]
      subst q2
      have eR := hS1 (d + 1) (by omega) (by omega)
      have hR8 := rs_le (r := r) (s := s) hl4 (d + 1)
      obtain ⟨lb1, lb2⟩ := mclm_lb hO (A := ahA r is d) hi hp' (r (64 + i)) 0 N 0 N1 n' (by omega) (fun c l z => Or.inl (hA c l z)) q1
      have hA1 : ∀ c l, N1 c = some l → (ahA r is (d + 1)).testBit l = true := by
        intro c l z
        rw [ahA, hid, Nat.testBit_or]
        rcases lb2 c l z with w | ⟨q', w1, -, w2⟩
        · rw [w]; rfl
        · rw [w2, lbw_t w1]; simp
      have hmem : ∀ a ∈ is.drop (d + 1), a < r 6 := by
        intro a ha
        have ha' := List.mem_of_mem_drop ha
        obtain ⟨q, hq, rfl⟩ := List.getElem_of_mem ha'
        have := (his q hq).1
        rw [List.getD_eq_getElem?_getD, List.getElem?_eq_getElem hq] at this
        exact this
      have hbd : ∀ y, mbl r s (is.drop (d + 1)) N1 = some y → rsL r s (ahA r is (d + 1)) (is.drop (d + 1)) ≤ y ∧ spent + n' + y ≤ 32 := by
        intro y hy
        refine ⟨mbl_lb hO _ _ _ _ hmem hA1 hy, ?_⟩
        have := mbl_le hO.1 _ N1 y hmem hy
        rw [List.length_drop] at this
        omega
      have ho33 : o.getD 33 ≤ 33 := by
        cases o with
        | none => exact Nat.le_refl _
        | some x => have := ho x rfl; show x ≤ 33; omega
      have f31 := f3.trans hf
      rw [show mpv (mbl r s (is.drop (d + 1))) (some (N1, n')) = oad n' (mbl r s (is.drop (d + 1)) N1) from rfl, oad_omin, oad_oad, ← omin_assoc]
      by_cases hq : o.getD 33 ≤ spent + n' + rsL r s (ahA r is (d + 1)) (is.drop (d + 1))
      · obtain ⟨m3, i1, i2, i3, i4⟩ := fin m1 o hK1 hG1 hS1 f4 f31 ho
        rw [omin_ge2 hq hbd]
        refine ⟨m3, ?_, f2.tr i2, i3, i4⟩
        simp (disch := omega) only [hng, ecl, f31, eR, hq, cl2_so, cl1_so, ck_tr, zl_0, zl_1, zl_2, zl_3, zl_4, zl_5, zl_6, zl_7, zl_8, zl_9, zl_10, zl_11, zl_12, zl_15, zl_16, zl_20, zl_24, zl_25, zl_30, zl_31, zl_32, zl_33, zl_44, zl_48, zl_50, zl_57, zl_59, zl_60, zl_61, zl_62, zl_63, zl_64, zl_68, zl_97, zl_99, zl_100, zl_104, zl_108, zl_114, zl_120, zl_122, zl_126, zl_132, zl_180, zl_181, zl_186, zl_255, zl_900, zl_930, zl_1000, zl_1000000, nI_add, pk_mul, zs_sub, zs_lt, zs_le, zs_eq, zs_inb, zs_cl, zm_eq, zm_eq2, zm_lt, zm_le, mz_lt, mz_le, mm_eq, zs_bit, zs_or1, zs_div, zs_rem, ck_pos, if_pos, if_neg, true_or, or_true, true_and, and_true, false_or, or_false, false_and, and_false, not_true, not_false_iff, if_true, if_false, eq_self, Bool.false_eq_true, cl2_id, Bool.not_true, Bool.not_false]
        exact i1
      · obtain ⟨m2, g1, g2, g3, g4⟩ := hrec (spent + n') o N1 B1 m1 hK1 hG1 hS1 f4 (fun x hx hvx q z => by
          obtain ⟨r1, r2⟩ := f5 x hx hvx
          cases hb : B x with
          | none =>
            rcases r2 hb with ⟨w, _⟩ | ⟨w, _⟩
            · rw [w] at z; cases z
            · rw [w] at z; have := Option.some.inj z; omega
          | some y =>
            have := (r1 (by rw [hb]; intro z; cases z)).1
            rw [this, hb] at z
            have := Option.some.inj z
            have := hB x hx hvx y hb
            omega) hA1 (by omega) ho f31
        obtain ⟨m3, i1, i2, i3, i4⟩ := fin m2 (omin o (oad (spent + n') (mbl r s (is.drop (d + 1)) N1))) (hK1.ag hO g2.1.agC) (hG1.fc g2) (hS1.fc g2) g3 g4 (omin_le ho (fun x hx => by
          cases hg : mbl r s (is.drop (d + 1)) N1 with
          | none => rw [hg] at hx; cases hx
          | some y =>
            rw [hg] at hx
            have := (hbd y hg).2
            have h3 : y + (spent + n') = x := Option.some.inj hx
            omega))
        refine ⟨m3, ?_, (f2.tr g2).tr i2, i3, i4⟩
        simp (disch := omega) only [hng, ecl, f31, eR, hq, g1, cl2_so, cl1_so, ck_tr, zl_0, zl_1, zl_2, zl_3, zl_4, zl_5, zl_6, zl_7, zl_8, zl_9, zl_10, zl_11, zl_12, zl_15, zl_16, zl_20, zl_24, zl_25, zl_30, zl_31, zl_32, zl_33, zl_44, zl_48, zl_50, zl_57, zl_59, zl_60, zl_61, zl_62, zl_63, zl_64, zl_68, zl_97, zl_99, zl_100, zl_104, zl_108, zl_114, zl_120, zl_122, zl_126, zl_132, zl_180, zl_181, zl_186, zl_255, zl_900, zl_930, zl_1000, zl_1000000, nI_add, pk_mul, zs_sub, zs_lt, zs_le, zs_eq, zs_inb, zs_cl, zm_eq, zm_eq2, zm_lt, zm_le, mz_lt, mz_le, mm_eq, zs_bit, zs_or1, zs_div, zs_rem, ck_pos, if_pos, if_neg, true_or, or_true, true_and, and_true, false_or, or_false, false_and, and_false, not_true, not_false_iff, if_true, if_false, eq_self, Bool.false_eq_true, cl2_id, Bool.not_true, Bool.not_false]
        exact i1
    · rw [q1]
      subst q2
      obtain ⟨m3, i1, i2, i3, i4⟩ := fin m1 o hK1 hG1 hS1 f4 (f3.trans hf) ho
      refine ⟨m3, ?_, f2.tr i2, i3, i4⟩
      simp (disch := omega) only [hng, ecl, cl2_so, cl1_so, ck_tr, zl_0, zl_1, zl_2, zl_3, zl_4, zl_5, zl_6, zl_7, zl_8, zl_9, zl_10, zl_11, zl_12, zl_15, zl_16, zl_20, zl_24, zl_25, zl_30, zl_31, zl_32, zl_33, zl_44, zl_48, zl_50, zl_57, zl_59, zl_60, zl_61, zl_62, zl_63, zl_64, zl_68, zl_97, zl_99, zl_100, zl_104, zl_108, zl_114, zl_120, zl_122, zl_126, zl_132, zl_180, zl_181, zl_186, zl_255, zl_900, zl_930, zl_1000, zl_1000000, nI_add, pk_mul, zs_sub, zs_lt, zs_le, zs_eq, zs_inb, zs_cl, zm_eq, zm_eq2, zm_lt, zm_le, mz_lt, mz_le, mm_eq, zs_bit, zs_or1, zs_div, zs_rem, ck_pos, if_pos, if_neg, true_or, or_true, true_and, and_true, false_or, or_false, false_and, and_false, not_true, not_false_iff, if_true, if_false, eq_self, Bool.false_eq_true, cl2_id, Bool.not_true, Bool.not_false]
      exact i1
theorem tpG (hO : KO r s) {e : Nat} {is : List Nat} (his : ∀ d, d < is.length → is.getD d 0 < r 6 ∧ r (100 + is.getD d 0) = e) (hl4 : is.length ≤ 4) : ∀ j d n, d + j = is.length → j < n → GoC t r s e is d (fX3_tryPlaces n) := by
  intro j
  induction j with
  | zero =>
    intro d n hd hn spent o N B m h hG hS hN hB hA hsp ho hf
    obtain ⟨n, rfl⟩ : ∃ n', n = n' + 1 := ⟨n - 1, by omega⟩
    have c2 := hG.1
    have e0 : oad spent (mbl r s (is.drop d) N) = some (0 + spent) := by
      rw [List.drop_eq_nil_of_le (by omega)]
      rfl
    rw [e0, Nat.zero_add, fX3_tryPlaces]
    unfold fX3_tryPlaces_13
    cases o with
    | none =>
      have hf' : m.1 96 6 = nI 33 := hf
      refine ⟨setI m 96 6 (nI spent), ?_, (Fc.rf m).sl _, fun x hx hvx => ?_, ?_⟩
      · simp (disch := omega) only [c2, hf', cl2_so, cl1_so, ck_tr, zl_0, zl_1, zl_2, zl_3, zl_4, zl_5, zl_6, zl_7, zl_8, zl_9, zl_10, zl_11, zl_12, zl_15, zl_16, zl_20, zl_24, zl_25, zl_30, zl_31, zl_32, zl_33, zl_44, zl_48, zl_50, zl_57, zl_59, zl_60, zl_61, zl_62, zl_63, zl_64, zl_68, zl_97, zl_99, zl_100, zl_104, zl_108, zl_114, zl_120, zl_122, zl_126, zl_132, zl_180, zl_181, zl_186, zl_255, zl_900, zl_930, zl_1000, zl_1000000, nI_add, pk_mul, zs_sub, zs_lt, zs_le, zs_eq, zs_inb, zs_cl, zm_eq, zm_eq2, zm_lt, zm_le, mz_lt, mz_le, mm_eq, zs_bit, zs_or1, zs_div, zs_rem, ck_pos, if_pos, if_neg, true_or, or_true, true_and, and_true, false_or, or_false, false_and, and_false, not_true, not_false_iff, if_true, if_false, eq_self, Bool.false_eq_true, cl2_id, Bool.not_true, Bool.not_false]
      · rw [sI_na (by decide), sI_na (by decide)]
        exact hN x hx hvx
      · rw [sI_eq]
        rfl
    | some y =>
      have hy := ho y rfl
      have hf' : m.1 96 6 = nI y := hf
      refine ⟨setI m 96 6 (nI (if spent < y then spent else y)), ?_, (Fc.rf m).sl _, fun x hx hvx => ?_, ?_⟩
      · by_cases q : spent < y
        · simp (disch := omega) only [c2, hf', q, cl2_so, cl1_so, ck_tr, zl_0, zl_1, zl_2, zl_3, zl_4, zl_5, zl_6, zl_7, zl_8, zl_9, zl_10, zl_11, zl_12, zl_15, zl_16, zl_20, zl_24, zl_25, zl_30, zl_31, zl_32, zl_33, zl_44, zl_48, zl_50, zl_57, zl_59, zl_60, zl_61, zl_62, zl_63, zl_64, zl_68, zl_97, zl_99, zl_100, zl_104, zl_108, zl_114, zl_120, zl_122, zl_126, zl_132, zl_180, zl_181, zl_186, zl_255, zl_900, zl_930, zl_1000, zl_1000000, nI_add, pk_mul, zs_sub, zs_lt, zs_le, zs_eq, zs_inb, zs_cl, zm_eq, zm_eq2, zm_lt, zm_le, mz_lt, mz_le, mm_eq, zs_bit, zs_or1, zs_div, zs_rem, ck_pos, if_pos, if_neg, true_or, or_true, true_and, and_true, false_or, or_false, false_and, and_false, not_true, not_false_iff, if_true, if_false, eq_self, Bool.false_eq_true, cl2_id, Bool.not_true, Bool.not_false]
        · simp (disch := omega) only [c2, hf', q, cl2_so, cl1_so, ck_tr, zl_0, zl_1, zl_2, zl_3, zl_4, zl_5, zl_6, zl_7, zl_8, zl_9, zl_10, zl_11, zl_12, zl_15, zl_16, zl_20, zl_24, zl_25, zl_30, zl_31, zl_32, zl_33, zl_44, zl_48, zl_50, zl_57, zl_59, zl_60, zl_61, zl_62, zl_63, zl_64, zl_68, zl_97, zl_99, zl_100, zl_104, zl_108, zl_114, zl_120, zl_122, zl_126, zl_132, zl_180, zl_181, zl_186, zl_255, zl_900, zl_930, zl_1000, zl_1000000, nI_add, pk_mul, zs_sub, zs_lt, zs_le, zs_eq, zs_inb, zs_cl, zm_eq, zm_eq2, zm_lt, zm_le, mz_lt, mz_le, mm_eq, zs_bit, zs_or1, zs_div, zs_rem, ck_pos, if_pos, if_neg, true_or, or_true, true_and, and_true, false_or, or_false, false_and, and_false, not_true, not_false_iff, if_true, if_false, eq_self, Bool.false_eq_true, cl2_id, Bool.not_true, Bool.not_false]
      · rw [sI_na (by decide), sI_na (by decide)]
        exact hN x hx hvx
      · rw [sI_eq]
        rfl
  | succ j ih =>
    intro d n hd hn spent o N B m h hG hS hN hB hA hsp ho hf
    obtain ⟨n, rfl⟩ : ∃ n', n = n' + 1 := ⟨n - 1, by omega⟩
    have c2 := hG.1
    have hw := hG.gw h his (d := d) (by omega)
    obtain ⟨f1, f2⟩ := hw.sy
    obtain ⟨hi, he, er, hsy, g1, g2⟩ := hw
    obtain ⟨h6, o1, o8, oS, oO, oL⟩ := hO.1.i hi
    obtain ⟨hL, hl⟩ := zWs_ok hO hi
    have hwk := wish_ok hO.1 hi
    have eb := fX8_hasBare_e hsy hwk.2.1 hwk.2.2
    rw [fX3_tryPlaces, drop_cons (show d < is.length by omega), mbl]
    generalize hid : is.getD d 0 = i at *
    cases hz : z_bare (z_wish r i)
    · rw [hz] at eb
      simp only [Bool.false_eq_true, if_false] at eb ⊢
      by_cases hlen : r (64 + i) ≤ (zWs r s i).length
      · obtain ⟨m1, i1, i2, i3, i4⟩ := tp62 (t := t) hO his (d := d) (by omega) hl4 hid (ih (d + 1) n (by omega) (by omega)) hsp (N := N) hB hA hlen (npl r s i) 0 FU o m h hG hS hN ho hf (by omega) (FU_pos (by unfold npl; omega))
        refine ⟨m1, ?_, i2, i3, i4⟩
        simp (disch := omega) only [c2, er, eb, g1, f1, cl2_so, cl1_so, ck_tr, zl_0, zl_1, zl_2, zl_3, zl_4, zl_5, zl_6, zl_7, zl_8, zl_9, zl_10, zl_11, zl_12, zl_15, zl_16, zl_20, zl_24, zl_25, zl_30, zl_31, zl_32, zl_33, zl_44, zl_48, zl_50, zl_57, zl_59, zl_60, zl_61, zl_62, zl_63, zl_64, zl_68, zl_97, zl_99, zl_100, zl_104, zl_108, zl_114, zl_120, zl_122, zl_126, zl_132, zl_180, zl_181, zl_186, zl_255, zl_900, zl_930, zl_1000, zl_1000000, nI_add, pk_mul, zs_sub, zs_lt, zs_le, zs_eq, zs_inb, zs_cl, zm_eq, zm_eq2, zm_lt, zm_le, mz_lt, mz_le, mm_eq, zs_bit, zs_or1, zs_div, zs_rem, ck_pos, if_pos, if_neg, true_or, or_true, true_and, and_true, false_or, or_false, false_and, and_false, not_true, not_false_iff, if_true, if_false, eq_self, Bool.false_eq_true, cl2_id, Bool.not_true, Bool.not_false]
        exact i1
      · have hnp : npl r s i = 0 := by unfold npl; omega
        rw [hnp]
        refine ⟨m, ?_, Fc.rf m, hN, ?_⟩
        · have hneg : nI (zWs r s i).length - nI (r (64 + i)) < nI 0 := pk_sneg (by omega) (by omega)
          simp (disch := omega) only [c2, er, eb, g1, f1, cl2_so, cl1_so, ck_tr, zl_0, zl_1, zl_2, zl_3, zl_4, zl_5, zl_6, zl_7, zl_8, zl_9, zl_10, zl_11, zl_12, zl_15, zl_16, zl_20, zl_24, zl_25, zl_30, zl_31, zl_32, zl_33, zl_44, zl_48, zl_50, zl_57, zl_59, zl_60, zl_61, zl_62, zl_63, zl_64, zl_68, zl_97, zl_99, zl_100, zl_104, zl_108, zl_114, zl_120, zl_122, zl_126, zl_132, zl_180, zl_181, zl_186, zl_255, zl_900, zl_930, zl_1000, zl_1000000, nI_add, pk_mul, zs_sub, zs_lt, zs_le, zs_eq, zs_inb, zs_cl, zm_eq, zm_eq2, zm_lt, zm_le, mz_lt, mz_le, mm_eq, zs_bit, zs_or1, zs_div, zs_rem, ck_pos, if_pos, if_neg, true_or, or_true, true_and, and_true, false_or, or_false, false_and, and_false, not_true, not_false_iff, if_true, if_false, eq_self, Bool.false_eq_true, cl2_id, Bool.not_true, Bool.not_false]
          rw [FU_s, fX3_tryPlaces_62, if_pos hneg]
        · show _ = nI ((omin o none).getD 33)
          rw [omin_n]
          exact hf
    · rw [hz] at eb
      simp only [if_true] at eb ⊢
      refine ⟨m, ?_, Fc.rf m, hN, ?_⟩
      · simp (disch := omega) only [c2, er, eb, cl2_so, cl1_so, ck_tr, zl_0, zl_1, zl_2, zl_3, zl_4, zl_5, zl_6, zl_7, zl_8, zl_9, zl_10, zl_11, zl_12, zl_15, zl_16, zl_20, zl_24, zl_25, zl_30, zl_31, zl_32, zl_33, zl_44, zl_48, zl_50, zl_57, zl_59, zl_60, zl_61, zl_62, zl_63, zl_64, zl_68, zl_97, zl_99, zl_100, zl_104, zl_108, zl_114, zl_120, zl_122, zl_126, zl_132, zl_180, zl_181, zl_186, zl_255, zl_900, zl_930, zl_1000, zl_1000000, nI_add, pk_mul, zs_sub, zs_lt, zs_le, zs_eq, zs_inb, zs_cl, zm_eq, zm_eq2, zm_lt, zm_le, mz_lt, mz_le, mm_eq, zs_bit, zs_or1, zs_div, zs_rem, ck_pos, if_pos, if_neg, true_or, or_true, true_and, and_true, false_or, or_false, false_and, and_false, not_true, not_false_iff, if_true, if_false, eq_self, Bool.false_eq_true, cl2_id, Bool.not_true, Bool.not_false]
      · show _ = nI ((omin o none).getD 33)
        rw [omin_n]
        exact hf
def fo2 (a b : Option Nat) : Int32 := maV (oplus a b)
theorem KC.side (h : KC m t r s) (hO : KO r s) {e : Nat} (he : e ≤ 1) : ∃ m1 m2 m3, fX3_gather t 81 (nI e) m = some m1 ∧ fX3_boundRests m1 = some m2 ∧ fX3_tryPlaces 8 (nI 0) (nI 0) (setI m2 96 6 (nI 33)) = some m3 ∧ Ak sC m m3 ∧ KC m3 t r s ∧ m3.1 96 6 = nI ((mbl r s (sdR r e) n0).getD 33) := by
  obtain ⟨hl4, hin, his⟩ := sdR_ok hO.1 (e := e)
  obtain ⟨m1, f1, f2, f3, f4, f5⟩ := h.gather hO he
  obtain ⟨m2, g1, g2, g3, g4, g5, g6⟩ := f3.bounds hO f4 his hl4
  have p1 : Fc m2 (setI m2 96 6 (nI 33)) := (Fc.rf m2).sl _
  obtain ⟨m3, i1, i2, i3, i4⟩ := tpG (t := t) hO his hl4 (sdR r e).length 0 8 (by omega) (by omega) 0 none n0 n0 _ (g3.ag hO p1.1.agC) (g4.fc p1) (g5.fc p1) (fun x hx hvx => by
    have hc := cc_lt hO.1.1 hvx
    refine ⟨((sI_na (by decide)).trans (g6 _ _ (by decide))).trans (f5 _ hc).1, ((sI_na (by decide)).trans (g6 _ _ (by decide))).trans (f5 _ hc).2, fun l z => (by cases z), fun q z => (by cases z), ⟨fun _ => rfl, fun _ => rfl⟩⟩) (fun x _ _ q z => (by cases z)) (fun c l z => (by cases z)) (by omega) (fun x z => (by cases z)) (sI_eq _ _ _ _)
  refine ⟨m1, m2, m3, f1, g1, i1, ((f2.tr g2).tr p1.1).tr i2.1, (g3.ag hO p1.1.agC).ag hO i2.1.agC, ?_⟩
  rw [i4, List.drop_zero]
  cases mbl r s (sdR r e) n0 <;> rfl
theorem maR_e (hO : KO r s) : maR r s = oplus (mbl r s (sdR r 0) n0) (mbl r s (sdR r 1) n0) := mbl_split hO _ _ (fun i hi => by have := List.mem_range'_1.mp hi; omega)
theorem KC.mendAll (h : KC m t r s) (hO : KO r s) : ∃ m', fX3_fewestForAll t 81 m = some (maV (maR r s), m') ∧ Ak sC m m' := by
  rw [maR_e hO]
  have hb : ∀ e x, mbl r s (sdR r e) n0 = some x → x ≤ 32 := by
    intro e x hx
    obtain ⟨hl4, hin, his⟩ := sdR_ok hO.1 (e := e)
    have := mbl_le hO.1 _ n0 x (fun a ha => (hin a ha).1) hx
    omega
  obtain ⟨m1, m2, m3, a1, a2, a3, a4, a5, a6⟩ := h.side hO (e := 0) (by omega)
  obtain ⟨m4, m5, m6, b1, b2, b3, b4, b5, b6⟩ := a5.side hO (e := 1) (by omega)
  unfold fX3_fewestForAll
  rw [FU_s, fX3_fewestForAll_5]
  cases h0 : mbl r s (sdR r 0) n0 with
  | none =>
    rw [h0] at a6
    have a6' : m3.1 96 6 = nI 33 := a6
    refine ⟨m3, ?_, a4⟩
    simp (disch := omega) only [a1, a2, a3, a6', cl2_so, cl1_so, ck_tr, zl_0, zl_1, zl_2, zl_3, zl_4, zl_5, zl_6, zl_7, zl_8, zl_9, zl_10, zl_11, zl_12, zl_15, zl_16, zl_20, zl_24, zl_25, zl_30, zl_31, zl_32, zl_33, zl_44, zl_48, zl_50, zl_57, zl_59, zl_60, zl_61, zl_62, zl_63, zl_64, zl_68, zl_97, zl_99, zl_100, zl_104, zl_108, zl_114, zl_120, zl_122, zl_126, zl_132, zl_180, zl_181, zl_186, zl_255, zl_900, zl_930, zl_1000, zl_1000000, nI_add, pk_mul, zs_sub, zs_lt, zs_le, zs_eq, zs_inb, zs_cl, zm_eq, zm_eq2, zm_lt, zm_le, mz_lt, mz_le, mm_eq, zs_bit, zs_or1, zs_div, zs_rem, ck_pos, if_pos, if_neg, true_or, or_true, true_and, and_true, false_or, or_false, false_and, and_false, not_true, not_false_iff, if_true, if_false, eq_self, Bool.false_eq_true, cl2_id, Bool.not_true, Bool.not_false]
    rfl
  | some x =>
    have hx := hb 0 x h0
    rw [h0] at a6
    have a6' : m3.1 96 6 = nI x := a6
    simp (disch := omega) only [a1, a2, a3, a6', cl2_so, cl1_so, ck_tr, zl_0, zl_1, zl_2, zl_3, zl_4, zl_5, zl_6, zl_7, zl_8, zl_9, zl_10, zl_11, zl_12, zl_15, zl_16, zl_20, zl_24, zl_25, zl_30, zl_31, zl_32, zl_33, zl_44, zl_48, zl_50, zl_57, zl_59, zl_60, zl_61, zl_62, zl_63, zl_64, zl_68, zl_97, zl_99, zl_100, zl_104, zl_108, zl_114, zl_120, zl_122, zl_126, zl_132, zl_180, zl_181, zl_186, zl_255, zl_900, zl_930, zl_1000, zl_1000000, nI_add, pk_mul, zs_sub, zs_lt, zs_le, zs_eq, zs_inb, zs_cl, zm_eq, zm_eq2, zm_lt, zm_le, mz_lt, mz_le, mm_eq, zs_bit, zs_or1, zs_div, zs_rem, ck_pos, if_pos, if_neg, true_or, or_true, true_and, and_true, false_or, or_false, false_and, and_false, not_true, not_false_iff, if_true, if_false, eq_self, Bool.false_eq_true, cl2_id, Bool.not_true, Bool.not_false]
    rw [fX3_fewestForAll_5]
    cases h1 : mbl r s (sdR r 1) n0 with
    | none =>
      rw [h1] at b6
      have b6' : m6.1 96 6 = nI 33 := b6
      refine ⟨m6, ?_, a4.tr b4⟩
      simp (disch := omega) only [b1, b2, b3, b6', cl2_so, cl1_so, ck_tr, zl_0, zl_1, zl_2, zl_3, zl_4, zl_5, zl_6, zl_7, zl_8, zl_9, zl_10, zl_11, zl_12, zl_15, zl_16, zl_20, zl_24, zl_25, zl_30, zl_31, zl_32, zl_33, zl_44, zl_48, zl_50, zl_57, zl_59, zl_60, zl_61, zl_62, zl_63, zl_64, zl_68, zl_97, zl_99, zl_100, zl_104, zl_108, zl_114, zl_120, zl_122, zl_126, zl_132, zl_180, zl_181, zl_186, zl_255, zl_900, zl_930, zl_1000, zl_1000000, nI_add, pk_mul, zs_sub, zs_lt, zs_le, zs_eq, zs_inb, zs_cl, zm_eq, zm_eq2, zm_lt, zm_le, mz_lt, mz_le, mm_eq, zs_bit, zs_or1, zs_div, zs_rem, ck_pos, if_pos, if_neg, true_or, or_true, true_and, and_true, false_or, or_false, false_and, and_false, not_true, not_false_iff, if_true, if_false, eq_self, Bool.false_eq_true, cl2_id, Bool.not_true, Bool.not_false]
      rfl
    | some y =>
      have hy := hb 1 y h1
      rw [h1] at b6
      have b6' : m6.1 96 6 = nI y := b6
      refine ⟨m6, ?_, a4.tr b4⟩
      simp (disch := omega) only [b1, b2, b3, b6', cl2_so, cl1_so, ck_tr, zl_0, zl_1, zl_2, zl_3, zl_4, zl_5, zl_6, zl_7, zl_8, zl_9, zl_10, zl_11, zl_12, zl_15, zl_16, zl_20, zl_24, zl_25, zl_30, zl_31, zl_32, zl_33, zl_44, zl_48, zl_50, zl_57, zl_59, zl_60, zl_61, zl_62, zl_63, zl_64, zl_68, zl_97, zl_99, zl_100, zl_104, zl_108, zl_114, zl_120, zl_122, zl_126, zl_132, zl_180, zl_181, zl_186, zl_255, zl_900, zl_930, zl_1000, zl_1000000, nI_add, pk_mul, zs_sub, zs_lt, zs_le, zs_eq, zs_inb, zs_cl, zm_eq, zm_eq2, zm_lt, zm_le, mz_lt, mz_le, mm_eq, zs_bit, zs_or1, zs_div, zs_rem, ck_pos, if_pos, if_neg, true_or, or_true, true_and, and_true, false_or, or_false, false_and, and_false, not_true, not_false_iff, if_true, if_false, eq_self, Bool.false_eq_true, cl2_id, Bool.not_true, Bool.not_false]
      rw [fX3_fewestForAll_5]
      simp (disch := omega) only [cl2_so, cl1_so, ck_tr, zl_0, zl_1, zl_2, zl_3, zl_4, zl_5, zl_6, zl_7, zl_8, zl_9, zl_10, zl_11, zl_12, zl_15, zl_16, zl_20, zl_24, zl_25, zl_30, zl_31, zl_32, zl_33, zl_44, zl_48, zl_50, zl_57, zl_59, zl_60, zl_61, zl_62, zl_63, zl_64, zl_68, zl_97, zl_99, zl_100, zl_104, zl_108, zl_114, zl_120, zl_122, zl_126, zl_132, zl_180, zl_181, zl_186, zl_255, zl_900, zl_930, zl_1000, zl_1000000, nI_add, pk_mul, zs_sub, zs_lt, zs_le, zs_eq, zs_inb, zs_cl, zm_eq, zm_eq2, zm_lt, zm_le, mz_lt, mz_le, mm_eq, zs_bit, zs_or1, zs_div, zs_rem, ck_pos, if_pos, if_neg, true_or, or_true, true_and, and_true, false_or, or_false, false_and, and_false, not_true, not_false_iff, if_true, if_false, eq_self, Bool.false_eq_true, cl2_id, Bool.not_true, Bool.not_false]
      rw [show maV (oplus (some x) (some y)) = nI (x + y) from rfl, Nat.zero_add]
theorem b_mendAll (hI : Inv m) (hC : JC m H r s) (hM : JM m H r s) (hO : JO H r s) : Both fX10_mendAll fX11_mendAll m := by
  cases H
  · refine ⟨-nI 1, 1, ?_, fun m1 h1 => ?_⟩
    · have e := hC.1
      simp only [HB] at e
      unfold fX10_mendAll fX10_mendAll_34
      simp (disch := omega) only [e, cl2_so, cl1_so, ck_tr, zl_0, zl_1, zl_2, zl_3, zl_4, zl_5, zl_6, zl_7, zl_8, zl_9, zl_10, zl_11, zl_12, zl_15, zl_16, zl_20, zl_24, zl_25, zl_30, zl_31, zl_32, zl_33, zl_44, zl_48, zl_50, zl_57, zl_59, zl_60, zl_61, zl_62, zl_63, zl_64, zl_68, zl_97, zl_99, zl_100, zl_104, zl_108, zl_114, zl_120, zl_122, zl_126, zl_132, zl_180, zl_181, zl_186, zl_255, zl_900, zl_930, zl_1000, zl_1000000, nI_add, pk_mul, zs_sub, zs_lt, zs_le, zs_eq, zs_inb, zs_cl, zm_eq, zm_eq2, zm_lt, zm_le, mz_lt, mz_le, mm_eq, zs_bit, zs_or1, zs_div, zs_rem, ck_pos, if_pos, if_neg, true_or, or_true, true_and, and_true, false_or, or_false, false_and, and_false, not_true, not_false_iff, if_true, if_false, eq_self, Bool.false_eq_true, cl2_id, Bool.not_true, Bool.not_false]
      exact ansC_no 1 (Ak.rf m)
    · have hM1 := hM.ag (h1.agC.tr (gd_ak m1).agM)
      have e := hM1.1
      simp only [HB] at e
      unfold fX11_mendAll
      simp (disch := omega) only [gd_e, e, cl2_so, cl1_so, ck_tr, zl_0, zl_1, zl_2, zl_3, zl_4, zl_5, zl_6, zl_7, zl_8, zl_9, zl_10, zl_11, zl_12, zl_15, zl_16, zl_20, zl_24, zl_25, zl_30, zl_31, zl_32, zl_33, zl_44, zl_48, zl_50, zl_57, zl_59, zl_60, zl_61, zl_62, zl_63, zl_64, zl_68, zl_97, zl_99, zl_100, zl_104, zl_108, zl_114, zl_120, zl_122, zl_126, zl_132, zl_180, zl_181, zl_186, zl_255, zl_900, zl_930, zl_1000, zl_1000000, nI_add, pk_mul, zs_sub, zs_lt, zs_le, zs_eq, zs_inb, zs_cl, zm_eq, zm_eq2, zm_lt, zm_le, mz_lt, mz_le, mm_eq, zs_bit, zs_or1, zs_div, zs_rem, ck_pos, if_pos, if_neg, true_or, or_true, true_and, and_true, false_or, or_false, false_and, and_false, not_true, not_false_iff, if_true, if_false, eq_self, Bool.false_eq_true, cl2_id, Bool.not_true, Bool.not_false]
      exact ansM_no 1 (gd_ak m1)
  · have hK : KO r s := hO rfl
    have hle : ∀ x, maR r s = some x → x ≤ 32 := by
      intro x hx
      have h6 := hK.1.2.2.2.2.1
      have := mbl_le hK.1 _ n0 x (fun a ha => by have := List.mem_range'_1.mp ha; omega) hx
      rw [List.length_range'] at this
      omega
    refine ⟨maV (maR r s), 0, ?_, fun m1 h1 => ?_⟩
    · have e := hC.1
      simp only [HB, if_true] at e
      obtain ⟨m2, e2, a2⟩ := (hC.kc hI).mendAll hK
      unfold fX10_mendAll fX10_mendAll_34
      simp (disch := omega) only [e, e2, cl2_so, cl1_so, ck_tr, zl_0, zl_1, zl_2, zl_3, zl_4, zl_5, zl_6, zl_7, zl_8, zl_9, zl_10, zl_11, zl_12, zl_15, zl_16, zl_20, zl_24, zl_25, zl_30, zl_31, zl_32, zl_33, zl_44, zl_48, zl_50, zl_57, zl_59, zl_60, zl_61, zl_62, zl_63, zl_64, zl_68, zl_97, zl_99, zl_100, zl_104, zl_108, zl_114, zl_120, zl_122, zl_126, zl_132, zl_180, zl_181, zl_186, zl_255, zl_900, zl_930, zl_1000, zl_1000000, nI_add, pk_mul, zs_sub, zs_lt, zs_le, zs_eq, zs_inb, zs_cl, zm_eq, zm_eq2, zm_lt, zm_le, mz_lt, mz_le, mm_eq, zs_bit, zs_or1, zs_div, zs_rem, ck_pos, if_pos, if_neg, true_or, or_true, true_and, and_true, false_or, or_false, false_and, and_false, not_true, not_false_iff, if_true, if_false, eq_self, Bool.false_eq_true, cl2_id, Bool.not_true, Bool.not_false]
      exact ansC_ok _ a2
    · have hM1 := hM.ag (h1.agC.tr (gd_ak m1).agM)
      have e := hM1.1
      simp only [HB, if_true] at e
      obtain ⟨m2, e2, a2⟩ := hM1.km.mendAll hK
      unfold fX11_mendAll
      simp (disch := omega) only [gd_e, e, e2, cl2_so, cl1_so, ck_tr, zl_0, zl_1, zl_2, zl_3, zl_4, zl_5, zl_6, zl_7, zl_8, zl_9, zl_10, zl_11, zl_12, zl_15, zl_16, zl_20, zl_24, zl_25, zl_30, zl_31, zl_32, zl_33, zl_44, zl_48, zl_50, zl_57, zl_59, zl_60, zl_61, zl_62, zl_63, zl_64, zl_68, zl_97, zl_99, zl_100, zl_104, zl_108, zl_114, zl_120, zl_122, zl_126, zl_132, zl_180, zl_181, zl_186, zl_255, zl_900, zl_930, zl_1000, zl_1000000, nI_add, pk_mul, zs_sub, zs_lt, zs_le, zs_eq, zs_inb, zs_cl, zm_eq, zm_eq2, zm_lt, zm_le, mz_lt, mz_le, mm_eq, zs_bit, zs_or1, zs_div, zs_rem, ck_pos, if_pos, if_neg, true_or, or_true, true_and, and_true, false_or, or_false, false_and, and_false, not_true, not_false_iff, if_true, if_false, eq_self, Bool.false_eq_true, cl2_id, Bool.not_true, Bool.not_false]
      exact ansN_ok _ a2
end MA5
