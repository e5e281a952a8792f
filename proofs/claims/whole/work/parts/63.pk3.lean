/-! pack: the class's search through the sets -/
theorem max_ex (f : Nat → Nat) (g : Nat → Bool) : ∀ N, (∃ i, i < N ∧ g i = true) → ∃ w, w < N ∧ g w = true ∧ ∀ v, v < N → g v = true → f v ≤ f w
  | 0, h => by obtain ⟨i, h, -⟩ := h; omega
  | N + 1, h => by
    by_cases hq : ∃ i, i < N ∧ g i = true
    · obtain ⟨w, a, b, c⟩ := max_ex f g N hq
      by_cases hN : g N = true ∧ f w < f N
      · refine ⟨N, by omega, hN.1, fun v hv hg => ?_⟩
        by_cases e : v = N
        · rw [e]; exact Nat.le_refl _
        · have := c v (by omega) hg; omega
      · refine ⟨w, by omega, b, fun v hv hg => ?_⟩
        by_cases e : v = N
        · subst e
          have : ¬ f w < f v := fun z => hN ⟨hg, z⟩
          omega
        · exact c v (by omega) hg
    · obtain ⟨i, hi, hg⟩ := h
      have e : i = N := by
        rcases Nat.lt_or_ge i N with z | z
        · exact absurd ⟨i, z, hg⟩ hq
        · omega
      subst e
      refine ⟨i, by omega, hg, fun v hv hv' => ?_⟩
      by_cases e : v = i
      · rw [e]; exact Nat.le_refl _
      · exact absurd ⟨v, by omega, hv'⟩ hq
theorem lin_eq {u w : List Nat} (h : lin u w = true) (hl : w.length ≤ u.length) : u = w := by
  unfold lin at h
  rw [z_ex_iff] at h
  obtain ⟨p, -, h2, h3⟩ := h
  unfold z_st at h3
  rw [Bool.and_eq_true, decide_eq_true_eq, z_al_iff] at h3
  obtain ⟨h4, h5⟩ := h3
  have hp : p = 0 := by omega
  subst hp
  apply List.ext_getElem (by omega)
  intro i a b
  have := h5 i (by omega) (by omega)
  rw [decide_eq_true_eq, Nat.zero_add, List.getD_eq_getElem?_getD, List.getD_eq_getElem?_getD, List.getElem?_eq_getElem a, List.getElem?_eq_getElem b] at this
  exact this
def rowC (r : Nat → Nat) (S : Nat) : Nat := (mno (fun v => (wh r S).testBit v) (D6 (r 5) (wlen r) (oC r) (wh r S)) 0 (r 5) none).getD 1000
def pst (room L S : Nat) (b : Nat × Nat) : Nat × Nat := if room < L then b else if pcn b.1 < pcn S then (S, L) else if pcn S = pcn b.1 then (if L < b.2 then (S, L) else b) else b
def pkF (r : Nat → Nat) : Nat → Nat → Nat × Nat → Nat × Nat
  | _, 0, b => b
  | k, j + 1, b => pkF r (k + 1) j (if sub6 k (usb r) then pst (r 0 * r 1) (rowC r k) k b else b)
theorem pst_le {room L S : Nat} {b : Nat × Nat} (hS : S < 64) (hL : L ≤ 1000) (h1 : b.1 < 64) (h2 : b.2 ≤ 1000) : (pst room L S b).1 < 64 ∧ (pst room L S b).2 ≤ 1000 := by
  unfold pst
  split
  · exact ⟨h1, h2⟩
  · split
    · exact ⟨hS, hL⟩
    · split
      · split
        · exact ⟨hS, hL⟩
        · exact ⟨h1, h2⟩
      · exact ⟨h1, h2⟩
theorem pkF_le {r : Nat → Nat} {N : Nat} (hN : N ≤ 64) (hR : ∀ S, 1 ≤ S → S < N → rowC r S ≤ 1000) : ∀ j k b, 1 ≤ k → k + j ≤ N → b.1 < 64 → b.2 ≤ 1000 → (pkF r k j b).1 < 64 ∧ (pkF r k j b).2 ≤ 1000
  | 0, k, b, _, _, h1, h2 => ⟨h1, h2⟩
  | j + 1, k, b, hk0, hk, h1, h2 => by
    rw [pkF]
    have := pst_le (room := r 0 * r 1) (L := rowC r k) (S := k) (b := b) (by omega) (hR k hk0 (by omega)) h1 h2
    split
    · exact pkF_le hN hR j (k + 1) _ (by omega) (by omega) this.1 this.2
    · exact pkF_le hN hR j (k + 1) _ (by omega) (by omega) h1 h2
section PK3
variable {m : Me} {H : Bool} {t : Nat} {r s : Nat → Nat} {x1 x2 x3 x4 : Int32}
theorem hol_t (i v : Nat) : (hol r i).testBit v = (decide (v < r 5) && hld r i v) := by
  unfold hol
  rw [z_or_test, Nat.zero_testBit, Bool.false_or]
  congr 1
  simp
theorem usb_t (v : Nat) : (usb r).testBit v = (decide (v < r 5) && !z_bare (z_word r v)) := by
  unfold usb
  rw [z_or_test, Nat.zero_testBit, Bool.false_or]
  congr 1
  simp
theorem whf_t {S : Nat} : ∀ j k acc, acc < 64 → k + j ≤ 6 → whf r S k j acc ≤ acc ∧ ∀ v, v < 6 → (whf r S k j acc).testBit v = (acc.testBit v && !(decide (k ≤ v ∧ v < k + j) && decide (hol r v &&& S ≠ 0)))
  | 0, k, acc, ha, hk => by
    refine ⟨Nat.le_refl _, fun v hv => ?_⟩
    rw [whf, decide_eq_false (show ¬ (k ≤ v ∧ v < k + 0) by omega)]
    simp
  | j + 1, k, acc, ha, hk => by
    rw [whf]
    by_cases hz : hol r k &&& S = 0
    · rw [if_pos hz]
      obtain ⟨h1, h2⟩ := whf_t (S := S) j (k + 1) acc ha (by omega)
      refine ⟨h1, fun v hv => ?_⟩
      rw [h2 v hv]
      by_cases e : v = k
      · subst e
        rw [decide_eq_false (show ¬ (hol r v &&& S ≠ 0) from fun q => q hz), Bool.and_false, Bool.and_false]
      · have : (k + 1 ≤ v ∧ v < k + 1 + j) ↔ (k ≤ v ∧ v < k + (j + 1)) := by omega
        rw [decide_eq_decide.mpr this]
    · rw [if_neg hz]
      have hc := clr_le acc k
      obtain ⟨h1, h2⟩ := whf_t (S := S) j (k + 1) (clr acc k) (by omega) (by omega)
      refine ⟨by omega, fun v hv => ?_⟩
      rw [h2 v hv, clr_t acc ha k (by omega) v hv]
      by_cases e : v = k
      · subst e
        rw [decide_eq_true (show hol r v &&& S ≠ 0 from hz), decide_eq_true (show v ≤ v ∧ v < v + (j + 1) by omega), decide_eq_false (show ¬ (v ≠ v) from fun q => q rfl)]
        simp
      · have : (k + 1 ≤ v ∧ v < k + 1 + j) ↔ (k ≤ v ∧ v < k + (j + 1)) := by omega
        rw [decide_eq_decide.mpr this, decide_eq_true (show v ≠ k from e), Bool.and_true]
theorem wh_t (hO : OKr r) {S : Nat} (hS : S < 2 ^ r 5) : wh r S ≤ S ∧ ∀ v, v < 6 → (wh r S).testBit v = (S.testBit v && decide (hol r v &&& S = 0)) := by
  have h5 := hO.w.1
  have hS6 : S < 64 := Nat.lt_of_lt_of_le hS (pw6 h5)
  obtain ⟨h1, h2⟩ := whf_t (r := r) (S := S) (r 5) 0 S hS6 (by omega)
  refine ⟨h1, fun v hv => ?_⟩
  show (whf r S 0 (r 5) S).testBit v = _
  rw [h2 v hv]
  by_cases hn : v < r 5
  · rw [decide_eq_true (show 0 ≤ v ∧ v < 0 + r 5 by omega), Bool.true_and]
    by_cases hz : hol r v &&& S = 0
    · rw [decide_eq_true hz, decide_eq_false (fun q => q hz)]; rfl
    · rw [decide_eq_false hz, decide_eq_true hz]; rfl
  · rw [t_hi hS (by omega), Bool.false_and, Bool.false_and]
theorem wh_pos (hO : OKr r) {S : Nat} (hS : S < 2 ^ r 5) (h1 : 1 ≤ S) : 1 ≤ wh r S := by
  have h5 := hO.w.1
  have hS6 : S < 64 := Nat.lt_of_lt_of_le hS (pw6 h5)
  obtain ⟨i, hi, hb⟩ := nz6 S hS6 h1
  have hiN : i < r 5 := by
    rcases Nat.lt_or_ge i (r 5) with q | q
    · exact q
    · rw [t_hi hS q] at hb; cases hb
  obtain ⟨w, hw, hwb, hmax⟩ := max_ex (wlen r) (fun v => S.testBit v) (r 5) ⟨i, hiN, hb⟩
  have hz : hol r w &&& S = 0 := by
    rw [and6 _ (hol_lt hO w) _ hS6]
    rintro v hv ⟨q1, q2⟩
    rw [hol_t, Bool.and_eq_true, decide_eq_true_eq] at q1
    obtain ⟨q3, q4⟩ := q1
    unfold hld at q4
    rw [Bool.and_eq_true, decide_eq_true_eq] at q4
    have hle := hmax v q3 q2
    have := lin_eq q4.2 (by rw [z_word_len, z_word_len]; exact hle)
    exact q4.1 (hO.2.2.2.2.2.2.2.2.2.2.2 w v hw q3 this)
  have ht := (wh_t hO hS).2 w (by omega)
  rw [hwb, decide_eq_true hz] at ht
  rcases Nat.eq_zero_or_pos (wh r S) with e | e
  · rw [e, Nat.zero_testBit] at ht; cases ht
  · exact e
theorem so7 (hO : KO r s) (h : KC m t r s) {W : Nat} (hW : W < 64) (h1 : 1 ≤ W) (hT : ∀ w, w < r 5 → m.1 126 (W * 6 + w) = if W.testBit w then nI (D6 (r 5) (wlen r) (oC r) W w) else nI 1000) : ∀ j k n o, k + j = r 5 → j < n → (∀ x, o = some x → x ≤ 504) → fX4_shortestOf_7 n t (nI W) (nI (o.getD 1000)) (nI k) m = some (nI ((mno (fun v => W.testBit v) (D6 (r 5) (wlen r) (oC r) W) k j o).getD 1000), m) := by
  have h5 := hO.1.w.1
  have hlen := hO.1.w.2
  have e7 := h.2.2.1.2.1.2.1
  intro j
  induction j with
  | zero =>
    intro k n o hk hn ho
    obtain ⟨n, rfl⟩ : ∃ n', n = n' + 1 := ⟨n - 1, by omega⟩
    rw [fX4_shortestOf_7, mno]
    simp (disch := omega) only [e7, cl2_so, cl1_so, ck_tr, zl_0, zl_1, zl_2, zl_3, zl_4, zl_5, zl_6, zl_7, zl_8, zl_9, zl_10, zl_11, zl_12, zl_15, zl_16, zl_20, zl_24, zl_25, zl_30, zl_31, zl_32, zl_33, zl_44, zl_48, zl_50, zl_57, zl_59, zl_60, zl_61, zl_62, zl_63, zl_64, zl_68, zl_97, zl_99, zl_100, zl_104, zl_108, zl_114, zl_120, zl_122, zl_126, zl_132, zl_180, zl_181, zl_186, zl_255, zl_900, zl_930, zl_1000, zl_1000000, nI_add, pk_mul, zs_sub, zs_lt, zs_le, zs_eq, zs_inb, zs_cl, zm_eq, zm_eq2, zm_lt, zm_le, mz_lt, mz_le, mm_eq, zs_bit, zs_or1, zs_div, zs_rem, ck_pos, if_pos, if_neg, true_or, or_true, true_and, and_true, false_or, or_false, false_and, and_false, not_true, not_false_iff, if_true, if_false, eq_self, Bool.false_eq_true, cl2_id, Bool.not_true, Bool.not_false]
  | succ j ih =>
    intro k n o hk hn ho
    obtain ⟨n, rfl⟩ : ∃ n', n = n' + 1 := ⟨n - 1, by omega⟩
    rw [fX4_shortestOf_7, mno]
    have e1 := hT k (by omega)
    have hle := D6_le h5 (ov := oC r) (fun w hw => (hlen w hw).2) hW h1 (show k < r 5 by omega)
    cases hb : W.testBit k
    · rw [hb] at e1
      simp only [Bool.false_eq_true, if_false] at e1
      cases o with
      | none =>
        have ih' := ih (k + 1) n none (by omega) (by omega) ho
        simp only [Option.getD] at ih' ⊢
        simp (disch := omega) only [e7, e1, mnS, cl2_so, cl1_so, ck_tr, zl_0, zl_1, zl_2, zl_3, zl_4, zl_5, zl_6, zl_7, zl_8, zl_9, zl_10, zl_11, zl_12, zl_15, zl_16, zl_20, zl_24, zl_25, zl_30, zl_31, zl_32, zl_33, zl_44, zl_48, zl_50, zl_57, zl_59, zl_60, zl_61, zl_62, zl_63, zl_64, zl_68, zl_97, zl_99, zl_100, zl_104, zl_108, zl_114, zl_120, zl_122, zl_126, zl_132, zl_180, zl_181, zl_186, zl_255, zl_900, zl_930, zl_1000, zl_1000000, nI_add, pk_mul, zs_sub, zs_lt, zs_le, zs_eq, zs_inb, zs_cl, zm_eq, zm_eq2, zm_lt, zm_le, mz_lt, mz_le, mm_eq, zs_bit, zs_or1, zs_div, zs_rem, ck_pos, if_pos, if_neg, true_or, or_true, true_and, and_true, false_or, or_false, false_and, and_false, not_true, not_false_iff, if_true, if_false, eq_self, Bool.false_eq_true, cl2_id, Bool.not_true, Bool.not_false]
        exact ih'
      | some x =>
        have hx := ho x rfl
        have ih' := ih (k + 1) n (some x) (by omega) (by omega) ho
        simp only [Option.getD] at ih' ⊢
        simp (disch := omega) only [e7, e1, mnS, cl2_so, cl1_so, ck_tr, zl_0, zl_1, zl_2, zl_3, zl_4, zl_5, zl_6, zl_7, zl_8, zl_9, zl_10, zl_11, zl_12, zl_15, zl_16, zl_20, zl_24, zl_25, zl_30, zl_31, zl_32, zl_33, zl_44, zl_48, zl_50, zl_57, zl_59, zl_60, zl_61, zl_62, zl_63, zl_64, zl_68, zl_97, zl_99, zl_100, zl_104, zl_108, zl_114, zl_120, zl_122, zl_126, zl_132, zl_180, zl_181, zl_186, zl_255, zl_900, zl_930, zl_1000, zl_1000000, nI_add, pk_mul, zs_sub, zs_lt, zs_le, zs_eq, zs_inb, zs_cl, zm_eq, zm_eq2, zm_lt, zm_le, mz_lt, mz_le, mm_eq, zs_bit, zs_or1, zs_div, zs_rem, ck_pos, if_pos, if_neg, true_or, or_true, true_and, and_true, false_or, or_false, false_and, and_false, not_true, not_false_iff, if_true, if_false, eq_self, Bool.false_eq_true, cl2_id, Bool.not_true, Bool.not_false]
        exact ih'
    · rw [hb] at e1
      simp only [if_true] at e1
      cases o with
      | none =>
        have ih' := ih (k + 1) n (some (D6 (r 5) (wlen r) (oC r) W k)) (by omega) (by omega) (fun x hx => by have := Option.some.inj hx; omega)
        simp only [Option.getD] at ih' ⊢
        simp (disch := omega) only [e7, e1, mnS, cl2_so, cl1_so, ck_tr, zl_0, zl_1, zl_2, zl_3, zl_4, zl_5, zl_6, zl_7, zl_8, zl_9, zl_10, zl_11, zl_12, zl_15, zl_16, zl_20, zl_24, zl_25, zl_30, zl_31, zl_32, zl_33, zl_44, zl_48, zl_50, zl_57, zl_59, zl_60, zl_61, zl_62, zl_63, zl_64, zl_68, zl_97, zl_99, zl_100, zl_104, zl_108, zl_114, zl_120, zl_122, zl_126, zl_132, zl_180, zl_181, zl_186, zl_255, zl_900, zl_930, zl_1000, zl_1000000, nI_add, pk_mul, zs_sub, zs_lt, zs_le, zs_eq, zs_inb, zs_cl, zm_eq, zm_eq2, zm_lt, zm_le, mz_lt, mz_le, mm_eq, zs_bit, zs_or1, zs_div, zs_rem, ck_pos, if_pos, if_neg, true_or, or_true, true_and, and_true, false_or, or_false, false_and, and_false, not_true, not_false_iff, if_true, if_false, eq_self, Bool.false_eq_true, cl2_id, Bool.not_true, Bool.not_false]
        exact ih'
      | some x =>
        have hx := ho x rfl
        by_cases hq : D6 (r 5) (wlen r) (oC r) W k < x
        · have ih' := ih (k + 1) n (some (D6 (r 5) (wlen r) (oC r) W k)) (by omega) (by omega) (fun x hx => by have := Option.some.inj hx; omega)
          simp only [Option.getD] at ih' ⊢
          simp (disch := omega) only [e7, e1, hq, mnS, cl2_so, cl1_so, ck_tr, zl_0, zl_1, zl_2, zl_3, zl_4, zl_5, zl_6, zl_7, zl_8, zl_9, zl_10, zl_11, zl_12, zl_15, zl_16, zl_20, zl_24, zl_25, zl_30, zl_31, zl_32, zl_33, zl_44, zl_48, zl_50, zl_57, zl_59, zl_60, zl_61, zl_62, zl_63, zl_64, zl_68, zl_97, zl_99, zl_100, zl_104, zl_108, zl_114, zl_120, zl_122, zl_126, zl_132, zl_180, zl_181, zl_186, zl_255, zl_900, zl_930, zl_1000, zl_1000000, nI_add, pk_mul, zs_sub, zs_lt, zs_le, zs_eq, zs_inb, zs_cl, zm_eq, zm_eq2, zm_lt, zm_le, mz_lt, mz_le, mm_eq, zs_bit, zs_or1, zs_div, zs_rem, ck_pos, if_pos, if_neg, true_or, or_true, true_and, and_true, false_or, or_false, false_and, and_false, not_true, not_false_iff, if_true, if_false, eq_self, Bool.false_eq_true, cl2_id, Bool.not_true, Bool.not_false]
          exact ih'
        · have ih' := ih (k + 1) n (some x) (by omega) (by omega) ho
          simp only [Option.getD] at ih' ⊢
          simp (disch := omega) only [e7, e1, hq, mnS, cl2_so, cl1_so, ck_tr, zl_0, zl_1, zl_2, zl_3, zl_4, zl_5, zl_6, zl_7, zl_8, zl_9, zl_10, zl_11, zl_12, zl_15, zl_16, zl_20, zl_24, zl_25, zl_30, zl_31, zl_32, zl_33, zl_44, zl_48, zl_50, zl_57, zl_59, zl_60, zl_61, zl_62, zl_63, zl_64, zl_68, zl_97, zl_99, zl_100, zl_104, zl_108, zl_114, zl_120, zl_122, zl_126, zl_132, zl_180, zl_181, zl_186, zl_255, zl_900, zl_930, zl_1000, zl_1000000, nI_add, pk_mul, zs_sub, zs_lt, zs_le, zs_eq, zs_inb, zs_cl, zm_eq, zm_eq2, zm_lt, zm_le, mz_lt, mz_le, mm_eq, zs_bit, zs_or1, zs_div, zs_rem, ck_pos, if_pos, if_neg, true_or, or_true, true_and, and_true, false_or, or_false, false_and, and_false, not_true, not_false_iff, if_true, if_false, eq_self, Bool.false_eq_true, cl2_id, Bool.not_true, Bool.not_false]
          exact ih'
theorem wh5 (hO : KO r s) (h : KC m t r s) (hH : HoC m r) {S : Nat} (hS : S < 64) : ∀ j k n acc, k + j = r 5 → j < n → acc < 64 → fX4_withoutHeld_5 n t (nI S) (nI acc) (nI k) m = some (nI (whf r S k j acc), m) := by
  have h5 := hO.1.w.1
  have e7 := h.2.2.1.2.1.2.1
  intro j
  induction j with
  | zero =>
    intro k n acc hk hn ha
    obtain ⟨n, rfl⟩ : ∃ n', n = n' + 1 := ⟨n - 1, by omega⟩
    rw [fX4_withoutHeld_5, whf]
    simp (disch := omega) only [e7, cl2_so, cl1_so, ck_tr, zl_0, zl_1, zl_2, zl_3, zl_4, zl_5, zl_6, zl_7, zl_8, zl_9, zl_10, zl_11, zl_12, zl_15, zl_16, zl_20, zl_24, zl_25, zl_30, zl_31, zl_32, zl_33, zl_44, zl_48, zl_50, zl_57, zl_59, zl_60, zl_61, zl_62, zl_63, zl_64, zl_68, zl_97, zl_99, zl_100, zl_104, zl_108, zl_114, zl_120, zl_122, zl_126, zl_132, zl_180, zl_181, zl_186, zl_255, zl_900, zl_930, zl_1000, zl_1000000, nI_add, pk_mul, zs_sub, zs_lt, zs_le, zs_eq, zs_inb, zs_cl, zm_eq, zm_eq2, zm_lt, zm_le, mz_lt, mz_le, mm_eq, zs_bit, zs_or1, zs_div, zs_rem, ck_pos, if_pos, if_neg, true_or, or_true, true_and, and_true, false_or, or_false, false_and, and_false, not_true, not_false_iff, if_true, if_false, eq_self, Bool.false_eq_true, cl2_id, Bool.not_true, Bool.not_false]
  | succ j ih =>
    intro k n acc hk hn ha
    obtain ⟨n, rfl⟩ : ∃ n', n = n' + 1 := ⟨n - 1, by omega⟩
    rw [fX4_withoutHeld_5, whf]
    unfold fX4_withoutHeld_35
    have e1 := hH k (by omega)
    have hl := hol_lt hO.1 k
    have ec := clr_I acc ha k (by omega)
    have hle := clr_le acc k
    have hab : hol r k &&& S < 64 := Nat.lt_of_le_of_lt Nat.and_le_left hl
    by_cases hz : hol r k &&& S = 0
    · rw [if_pos hz]
      simp (disch := omega) only [e7, e1, nI_andN (hol r k) S, hz, cl2_so, cl1_so, ck_tr, zl_0, zl_1, zl_2, zl_3, zl_4, zl_5, zl_6, zl_7, zl_8, zl_9, zl_10, zl_11, zl_12, zl_15, zl_16, zl_20, zl_24, zl_25, zl_30, zl_31, zl_32, zl_33, zl_44, zl_48, zl_50, zl_57, zl_59, zl_60, zl_61, zl_62, zl_63, zl_64, zl_68, zl_97, zl_99, zl_100, zl_104, zl_108, zl_114, zl_120, zl_122, zl_126, zl_132, zl_180, zl_181, zl_186, zl_255, zl_900, zl_930, zl_1000, zl_1000000, nI_add, pk_mul, zs_sub, zs_lt, zs_le, zs_eq, zs_inb, zs_cl, zm_eq, zm_eq2, zm_lt, zm_le, mz_lt, mz_le, mm_eq, zs_bit, zs_or1, zs_div, zs_rem, ck_pos, if_pos, if_neg, true_or, or_true, true_and, and_true, false_or, or_false, false_and, and_false, not_true, not_false_iff, if_true, if_false, eq_self, Bool.false_eq_true, cl2_id, Bool.not_true, Bool.not_false]
      exact ih (k + 1) n acc (by omega) (by omega) ha
    · rw [if_neg hz]
      simp (disch := omega) only [e7, e1, nI_andN (hol r k) S, hz, ec, cl2_so, cl1_so, ck_tr, zl_0, zl_1, zl_2, zl_3, zl_4, zl_5, zl_6, zl_7, zl_8, zl_9, zl_10, zl_11, zl_12, zl_15, zl_16, zl_20, zl_24, zl_25, zl_30, zl_31, zl_32, zl_33, zl_44, zl_48, zl_50, zl_57, zl_59, zl_60, zl_61, zl_62, zl_63, zl_64, zl_68, zl_97, zl_99, zl_100, zl_104, zl_108, zl_114, zl_120, zl_122, zl_126, zl_132, zl_180, zl_181, zl_186, zl_255, zl_900, zl_930, zl_1000, zl_1000000, nI_add, pk_mul, zs_sub, zs_lt, zs_le, zs_eq, zs_inb, zs_cl, zm_eq, zm_eq2, zm_lt, zm_le, mz_lt, mz_le, mm_eq, zs_bit, zs_or1, zs_div, zs_rem, ck_pos, if_pos, if_neg, true_or, or_true, true_and, and_true, false_or, or_false, false_and, and_false, not_true, not_false_iff, if_true, if_false, eq_self, Bool.false_eq_true, cl2_id, Bool.not_true, Bool.not_false]
      exact ih (k + 1) n (clr acc k) (by omega) (by omega) (by omega)
theorem weigh_c {a b y1 y2 y3 : Int32} (h1 : fJ6_bitCount_0f7a4 y1 m = some (a, m)) (h2 : fJ6_bitCount_0f7a4 (m.1 123 3) m = some (b, m)) : fX4_weigh y1 y2 y3 m = if y3 < y2 then some m else if (0 : Int32) < a - b then some (setI (setI m 123 3 y1) 123 4 y2) else if a - b = (0 : Int32) then (if (m.1 123 4) ≤ y2 then some m else some (setI (setI m 123 3 y1) 123 4 y2)) else some m := by
  unfold fX4_weigh fX4_weigh_37 fX4_weigh_47
  rw [cl2_e h1, cl2_e h2]
theorem zs_d0 {a b : Nat} (ha : a < 2000) (hb : b < 2000) : ((0 : Int32) < nI a - nI b ↔ b < a) ∧ (nI a - nI b = 0 ↔ a = b) := by
  constructor
  · rw [Int32.lt_iff_toInt_lt, pk_sub_toInt (by omega) (by omega)]
    show (0 : Int) < _ ↔ _
    omega
  · rw [← Int32.toInt_inj, pk_sub_toInt (by omega) (by omega)]
    show _ = (0 : Int) ↔ _
    omega
theorem weigh_e {S L room bb bl : Nat} (hS : S < 64) (hb : bb < 64) (hL : L ≤ 1000) (hl : bl ≤ 1000) (hr : room ≤ 30) (e3 : m.1 123 3 = nI bb) (e4 : m.1 123 4 = nI bl) : ∃ m', fX4_weigh (nI S) (nI L) (nI room) m = some m' ∧ PF m m' ∧ (∀ b k, b ≠ 123 → m'.1 b k = m.1 b k) ∧ m'.1 123 3 = nI (pst room L S (bb, bl)).1 ∧ m'.1 123 4 = nI (pst room L S (bb, bl)).2 := by
  have p1 := pcn_le S
  have p2 := pcn_le bb
  have e := weigh_c (m := m) (y1 := nI S) (y2 := nI L) (y3 := nI room) (bc_e (show S < 1024 by omega) m) (by rw [e3]; exact bc_e (show bb < 1024 by omega) m)
  have hP : pst room L S (bb, bl) = if room < L then (bb, bl) else if pcn bb < pcn S then (S, L) else if pcn S = pcn bb then (if L < bl then (S, L) else (bb, bl)) else (bb, bl) := rfl
  obtain ⟨d1, d2⟩ := zs_d0 (a := pcn S) (b := pcn bb) (by omega) (by omega)
  have c1 : nI room < nI L ↔ room < L := zs_lt (by omega) (by omega)
  have c2 : m.1 123 4 ≤ nI L ↔ bl ≤ L := by rw [e4]; exact zs_le (by omega) (by omega)
  simp only [d1, d2, c1, c2] at e
  generalize fX4_weigh (nI S) (nI L) (nI room) m = W at e
  generalize pst room L S (bb, bl) = P at hP
  generalize pcn S = u at *
  generalize pcn bb = v at *
  have yes : P = (S, L) → W = some (setI (setI m 123 3 (nI S)) 123 4 (nI L)) → ∃ m', W = some m' ∧ PF m m' ∧ (∀ b k, b ≠ 123 → m'.1 b k = m.1 b k) ∧ m'.1 123 3 = nI P.1 ∧ m'.1 123 4 = nI P.2 := by
    intro q1 q2
    refine ⟨_, q2, ((PF.rf m).set _ (by omega)).set _ (by omega), fun b k hb => (sI_na hb).trans (sI_na hb), ?_, ?_⟩
    · rw [q1, sI_nj (by decide), sI_eq]
    · rw [q1, sI_eq]
  have no : P = (bb, bl) → W = some m → ∃ m', W = some m' ∧ PF m m' ∧ (∀ b k, b ≠ 123 → m'.1 b k = m.1 b k) ∧ m'.1 123 3 = nI P.1 ∧ m'.1 123 4 = nI P.2 := by
    intro q1 q2
    exact ⟨m, q2, PF.rf m, fun _ _ _ => rfl, by rw [q1]; exact e3, by rw [q1]; exact e4⟩
  by_cases h1 : room < L
  · exact no (by rw [hP, if_pos h1]) (by rw [e, if_pos h1])
  · rw [if_neg h1] at hP e
    by_cases h2 : v < u
    · exact yes (by rw [hP, if_pos h2]) (by rw [e, if_pos h2])
    · rw [if_neg h2] at hP e
      by_cases h3 : u = v
      · rw [if_pos h3] at hP e
        by_cases h4 : L < bl
        · exact yes (by rw [hP, if_pos h4]) (by rw [e, if_neg (by omega)])
        · exact no (by rw [hP, if_neg h4]) (by rw [e, if_pos (by omega)])
      · rw [if_neg h3] at hP e
        exact no hP e
theorem rowC_le (hO : OKr r) {S : Nat} (hS : S < 2 ^ r 5) (h1 : 1 ≤ S) : rowC r S ≤ 1000 := by
  have hS6 : S < 64 := Nat.lt_of_lt_of_le hS (pw6 hO.w.1)
  have hw := (wh_t hO hS).1
  have hp := wh_pos hO hS h1
  unfold rowC
  cases hm : mno (fun v => (wh r S).testBit v) (D6 (r 5) (wlen r) (oC r) (wh r S)) 0 (r 5) none with
  | none => exact Nat.le_refl _
  | some x =>
    have := mno_le (B := 504) (r 5) 0 none (fun x e => by cases e) (fun i _ hi _ => D6_le hO.w.1 (ov := oC r) (fun w hw => (hO.w.2 w hw).2) (show wh r S < 64 by omega) hp (show i < r 5 by omega)) x hm
    show x ≤ 1000
    omega
theorem r01 (hO : OKr r) : r 0 * r 1 ≤ 30 := by
  obtain ⟨-, h2, -, h4, -⟩ := hO.1
  exact Nat.mul_le_mul h2 h4
theorem pw53 (hO : KO r s) : ∀ j k n bb bl (m : Me), KC m t r s → OvC m r → HoC m r → TbC m r k → m.1 123 3 = nI bb → m.1 123 4 = nI bl → bb < 64 → bl ≤ 1000 → k + j = 2 ^ r 5 → 1 ≤ k → j < n → ∃ m', fX4_packWords_53 n t (nI (usb r)) (nI k) m = some m' ∧ Ak sC m m' ∧ m'.1 123 3 = nI (pkF r k j (bb, bl)).1 ∧ m'.1 123 4 = nI (pkF r k j (bb, bl)).2 := by
  have h5 := hO.1.w.1
  have hp := pw6 h5
  have hroom := r01 hO.1
  have husb := usb_lt hO.1
  have hrow : ∀ S, 1 ≤ S → S < 2 ^ r 5 → rowC r S ≤ 1000 := fun S a b => rowC_le hO.1 b a
  have hwp : ∀ S, 1 ≤ S → S < 2 ^ r 5 → 1 ≤ wh r S ∧ wh r S ≤ S := fun S a b => ⟨wh_pos hO.1 b a, (wh_t hO.1 b).1⟩
  have hwt : ∀ S, S < 2 ^ r 5 → ∀ v, v < 6 → (wh r S).testBit v = (S.testBit v && decide (hol r v &&& S = 0)) := fun S b => (wh_t hO.1 b).2
  have hfs : ∀ S, S < 2 ^ r 5 → 1 ≤ S → sub6 S (usb r) = true → ∀ m, KC m t r s → OvC m r → HoC m r → TbC m r S → ∃ m', fX4_findShortest t (nI S) m = some m' ∧ PF m m' ∧ KC m' t r s ∧ OvC m' r ∧ HoC m' r ∧ TbC m' r (S + 1) ∧ (∀ j, m'.1 123 j = m.1 123 j) := fun S a b c m d e f g => fs2 hO a b c (r 5) 0 FU m d e f g (fun w hw => by omega) (by omega) (FU_pos (by omega))
  generalize hN : 2 ^ r 5 = N at hp hrow hwp hwt hfs
  have esh : nI 1 <<< (nI (r 5) &&& nI 31) = nI N := by rw [zs_sh1 (by omega), hN]
  intro j
  induction j with
  | zero =>
    intro k n bb bl m h hV hH hT e3 e4 hb hl hk hk1 hn
    obtain ⟨n, rfl⟩ : ∃ n', n = n' + 1 := ⟨n - 1, by omega⟩
    have e7 := h.2.2.1.2.1.2.1
    refine ⟨m, ?_, Ak.rf m, e3, e4⟩
    rw [fX4_packWords_53]
    simp (disch := omega) only [e7, esh, cl2_so, cl1_so, ck_tr, zl_0, zl_1, zl_2, zl_3, zl_4, zl_5, zl_6, zl_7, zl_8, zl_9, zl_10, zl_11, zl_12, zl_15, zl_16, zl_20, zl_24, zl_25, zl_30, zl_31, zl_32, zl_33, zl_44, zl_48, zl_50, zl_57, zl_59, zl_60, zl_61, zl_62, zl_63, zl_64, zl_68, zl_97, zl_99, zl_100, zl_104, zl_108, zl_114, zl_120, zl_122, zl_126, zl_132, zl_180, zl_181, zl_186, zl_255, zl_900, zl_930, zl_1000, zl_1000000, nI_add, pk_mul, zs_sub, zs_lt, zs_le, zs_eq, zs_inb, zs_cl, zm_eq, zm_eq2, zm_lt, zm_le, mz_lt, mz_le, mm_eq, zs_bit, zs_or1, zs_div, zs_rem, ck_pos, if_pos, if_neg, true_or, or_true, true_and, and_true, false_or, or_false, false_and, and_false, not_true, not_false_iff, if_true, if_false, eq_self, Bool.false_eq_true, cl2_id, Bool.not_true, Bool.not_false]
  | succ j ih =>
    intro k n bb bl m h hV hH hT e3 e4 hb hl hk hk1 hn
    obtain ⟨n, rfl⟩ : ∃ n', n = n' + 1 := ⟨n - 1, by omega⟩
    have e7 := h.2.2.1.2.1.2.1
    have ea := andn_I k (by omega) (usb r) husb
    have hle : k &&& (63 ^^^ usb r) ≤ k := Nat.and_le_left
    rw [fX4_packWords_53, pkF]
    unfold fX4_packWords_102
    by_cases hz : k &&& (63 ^^^ usb r) = 0
    · have hu : sub6 k (usb r) = true := by unfold sub6; exact decide_eq_true hz
      rw [hu]
      obtain ⟨m1, f1, f2, f3, f4, f5, f6, f7⟩ := hfs k (by omega) hk1 hu m h hV hH hT
      obtain ⟨w1, w2⟩ := hwp k hk1 (by omega)
      have g1 : fX4_withoutHeld t (nI k) m1 = some (nI (wh r k), m1) := wh5 hO f3 f5 (show k < 64 by omega) (r 5) 0 FU k (by omega) (FU_pos (by omega)) (by omega)
      have hsub : sub6 (wh r k) (usb r) = true := by
        rw [sub6_iff _ (by omega) _ husb]
        intro v hv hcv
        rw [hwt k (by omega) v hv, Bool.and_eq_true] at hcv
        exact (sub6_iff _ (by omega) _ husb).mp hu v hv hcv.1
      have g2 : fX4_shortestOf t (nI (wh r k)) m1 = some (nI (rowC r k), m1) := so7 hO f3 (W := wh r k) (by omega) w1 (f6 (wh r k) w1 (by omega) hsub) (r 5) 0 FU none (by omega) (FU_pos (by omega)) (fun x e => by cases e)
      have hrk := hrow k hk1 (by omega)
      obtain ⟨m2, i1, i2, i3, i4, i5⟩ := weigh_e (m := m1) (S := k) (L := rowC r k) (room := r 0 * r 1) (bb := bb) (bl := bl) (by omega) hb hrk hl hroom ((f7 3).trans e3) ((f7 4).trans e4)
      have hq := pst_le (room := r 0 * r 1) (L := rowC r k) (S := k) (b := (bb, bl)) (by omega) hrk hb hl
      have h2 := f3.ag hO i2.1.agC
      obtain ⟨m3, j1, j2, j3, j4⟩ := ih (k + 1) n _ _ m2 h2 (fun a b c d => (i3 _ _ (by decide)).trans (f4 a b c d)) (fun a b => (i3 _ _ (by decide)).trans (f5 a b)) (fun a b c d e f => (i3 _ _ (by decide)).trans (f6 a b c d e f)) i4 i5 hq.1 hq.2 (by omega) (by omega) (by omega)
      have c0 := f3.2.2.1.1.1
      have c1 := f3.2.2.1.1.2.1
      refine ⟨m3, ?_, (f2.1.tr i2.1).tr j2, j3, j4⟩
      simp (disch := omega) only [e7, esh, ea, hz, f1, g1, g2, c0, c1, i1, cl2_so, cl1_so, ck_tr, zl_0, zl_1, zl_2, zl_3, zl_4, zl_5, zl_6, zl_7, zl_8, zl_9, zl_10, zl_11, zl_12, zl_15, zl_16, zl_20, zl_24, zl_25, zl_30, zl_31, zl_32, zl_33, zl_44, zl_48, zl_50, zl_57, zl_59, zl_60, zl_61, zl_62, zl_63, zl_64, zl_68, zl_97, zl_99, zl_100, zl_104, zl_108, zl_114, zl_120, zl_122, zl_126, zl_132, zl_180, zl_181, zl_186, zl_255, zl_900, zl_930, zl_1000, zl_1000000, nI_add, pk_mul, zs_sub, zs_lt, zs_le, zs_eq, zs_inb, zs_cl, zm_eq, zm_eq2, zm_lt, zm_le, mz_lt, mz_le, mm_eq, zs_bit, zs_or1, zs_div, zs_rem, ck_pos, if_pos, if_neg, true_or, or_true, true_and, and_true, false_or, or_false, false_and, and_false, not_true, not_false_iff, if_true, if_false, eq_self, Bool.false_eq_true, cl2_id, Bool.not_true, Bool.not_false]
      exact j1
    · have hu : sub6 k (usb r) = false := by unfold sub6; exact decide_eq_false hz
      rw [hu]
      obtain ⟨m3, j1, j2, j3, j4⟩ := ih (k + 1) n bb bl m h hV hH (fun S a b c w hw => by
        by_cases q : S = k
        · subst q; rw [hu] at c; cases c
        · exact hT S a (by omega) c w hw) e3 e4 hb hl (by omega) (by omega) (by omega)
      refine ⟨m3, ?_, j2, j3, j4⟩
      simp (disch := omega) only [e7, esh, ea, hz, cl2_so, cl1_so, ck_tr, zl_0, zl_1, zl_2, zl_3, zl_4, zl_5, zl_6, zl_7, zl_8, zl_9, zl_10, zl_11, zl_12, zl_15, zl_16, zl_20, zl_24, zl_25, zl_30, zl_31, zl_32, zl_33, zl_44, zl_48, zl_50, zl_57, zl_59, zl_60, zl_61, zl_62, zl_63, zl_64, zl_68, zl_97, zl_99, zl_100, zl_104, zl_108, zl_114, zl_120, zl_122, zl_126, zl_132, zl_180, zl_181, zl_186, zl_255, zl_900, zl_930, zl_1000, zl_1000000, nI_add, pk_mul, zs_sub, zs_lt, zs_le, zs_eq, zs_inb, zs_cl, zm_eq, zm_eq2, zm_lt, zm_le, mz_lt, mz_le, mm_eq, zs_bit, zs_or1, zs_div, zs_rem, ck_pos, if_pos, if_neg, true_or, or_true, true_and, and_true, false_or, or_false, false_and, and_false, not_true, not_false_iff, if_true, if_false, eq_self, Bool.false_eq_true, cl2_id, Bool.not_true, Bool.not_false]
      exact j1
theorem pw4 (hO : KO r s) (h : KC m t r s) : ∀ j k n acc, k + j = r 5 → j < n → fX4_packWords_4 n t (nI acc) (nI k) m = cl1 (fX4_compareWords t m) fun m4 => fX4_packWords_53 FU t (nI (z_or (fun w => !z_bare (z_word r w)) k j acc)) (nI 1) (setI (setI m4 123 3 (nI 0)) 123 4 (nI 0)) := by
  have h5 := hO.1.w.1
  have e7 := h.2.2.1.2.1.2.1
  have ht := h.tt
  intro j
  induction j with
  | zero =>
    intro k n acc hk hn
    obtain ⟨n, rfl⟩ : ∃ n', n = n' + 1 := ⟨n - 1, by omega⟩
    rw [fX4_packWords_4, z_or]
    simp (disch := omega) only [e7, cl2_so, cl1_so, ck_tr, zl_0, zl_1, zl_2, zl_3, zl_4, zl_5, zl_6, zl_7, zl_8, zl_9, zl_10, zl_11, zl_12, zl_15, zl_16, zl_20, zl_24, zl_25, zl_30, zl_31, zl_32, zl_33, zl_44, zl_48, zl_50, zl_57, zl_59, zl_60, zl_61, zl_62, zl_63, zl_64, zl_68, zl_97, zl_99, zl_100, zl_104, zl_108, zl_114, zl_120, zl_122, zl_126, zl_132, zl_180, zl_181, zl_186, zl_255, zl_900, zl_930, zl_1000, zl_1000000, nI_add, pk_mul, zs_sub, zs_lt, zs_le, zs_eq, zs_inb, zs_cl, zm_eq, zm_eq2, zm_lt, zm_le, mz_lt, mz_le, mm_eq, zs_bit, zs_or1, zs_div, zs_rem, ck_pos, if_pos, if_neg, true_or, or_true, true_and, and_true, false_or, or_false, false_and, and_false, not_true, not_false_iff, if_true, if_false, eq_self, Bool.false_eq_true, cl2_id, Bool.not_true, Bool.not_false]
  | succ j ih =>
    intro k n acc hk hn
    obtain ⟨n, rfl⟩ : ∃ n', n = n' + 1 := ⟨n - 1, by omega⟩
    have hw := word_ok hO.1 (w := k) (by omega)
    have eb := fX8_hasBare_e (h.word (w := k) (by omega)) hw.2.1 hw.2.2
    rw [fX4_packWords_4, z_or]
    unfold fX4_packWords_30
    cases hb : z_bare (z_word r k)
    · rw [hb] at eb
      simp (disch := omega) only [e7, eb, cl2_so, cl1_so, ck_tr, zl_0, zl_1, zl_2, zl_3, zl_4, zl_5, zl_6, zl_7, zl_8, zl_9, zl_10, zl_11, zl_12, zl_15, zl_16, zl_20, zl_24, zl_25, zl_30, zl_31, zl_32, zl_33, zl_44, zl_48, zl_50, zl_57, zl_59, zl_60, zl_61, zl_62, zl_63, zl_64, zl_68, zl_97, zl_99, zl_100, zl_104, zl_108, zl_114, zl_120, zl_122, zl_126, zl_132, zl_180, zl_181, zl_186, zl_255, zl_900, zl_930, zl_1000, zl_1000000, nI_add, pk_mul, zs_sub, zs_lt, zs_le, zs_eq, zs_inb, zs_cl, zm_eq, zm_eq2, zm_lt, zm_le, mz_lt, mz_le, mm_eq, zs_bit, zs_or1, zs_div, zs_rem, ck_pos, if_pos, if_neg, true_or, or_true, true_and, and_true, false_or, or_false, false_and, and_false, not_true, not_false_iff, if_true, if_false, eq_self, Bool.false_eq_true, cl2_id, Bool.not_true, Bool.not_false]
      exact ih (k + 1) n _ (by omega) (by omega)
    · rw [hb] at eb
      simp (disch := omega) only [e7, eb, cl2_so, cl1_so, ck_tr, zl_0, zl_1, zl_2, zl_3, zl_4, zl_5, zl_6, zl_7, zl_8, zl_9, zl_10, zl_11, zl_12, zl_15, zl_16, zl_20, zl_24, zl_25, zl_30, zl_31, zl_32, zl_33, zl_44, zl_48, zl_50, zl_57, zl_59, zl_60, zl_61, zl_62, zl_63, zl_64, zl_68, zl_97, zl_99, zl_100, zl_104, zl_108, zl_114, zl_120, zl_122, zl_126, zl_132, zl_180, zl_181, zl_186, zl_255, zl_900, zl_930, zl_1000, zl_1000000, nI_add, pk_mul, zs_sub, zs_lt, zs_le, zs_eq, zs_inb, zs_cl, zm_eq, zm_eq2, zm_lt, zm_le, mz_lt, mz_le, mm_eq, zs_bit, zs_or1, zs_div, zs_rem, ck_pos, if_pos, if_neg, true_or, or_true, true_and, and_true, false_or, or_false, false_and, and_false, not_true, not_false_iff, if_true, if_false, eq_self, Bool.false_eq_true, cl2_id, Bool.not_true, Bool.not_false]
      exact ih (k + 1) n _ (by omega) (by omega)
def pkR (r : Nat → Nat) : Nat × Nat := pkF r 1 (2 ^ r 5 - 1) (0, 0)
theorem pkR_le (hO : OKr r) : (pkR r).1 < 64 ∧ (pkR r).2 ≤ 1000 := by
  have hp := pw6 hO.w.1
  have h1 : 1 ≤ 2 ^ r 5 := Nat.one_le_two_pow
  exact pkF_le (N := 2 ^ r 5) hp (fun S a b => rowC_le hO b a) _ 1 (0, 0) (by omega) (by omega) (by decide) (by decide)
theorem KC.pack (h : KC m t r s) (hO : KO r s) : ∃ m', fX4_packWords t m = some m' ∧ Ak sC m m' ∧ m'.1 123 3 = nI (pkR r).1 ∧ m'.1 123 4 = nI (pkR r).2 := by
  have h5 := hO.1.w.1
  have hp := pw6 h5
  have h1 : 1 ≤ 2 ^ r 5 := Nat.one_le_two_pow
  have e := pw4 hO h (r 5) 0 FU 0 (by omega) (FU_pos (by omega))
  obtain ⟨m1, f1, f2, f3, f4, f5⟩ := h.compare hO
  have p2 : PF m1 (setI (setI m1 123 3 (nI 0)) 123 4 (nI 0)) := ((PF.rf m1).set _ (by omega)).set _ (by omega)
  obtain ⟨m2, g1, g2, g3, g4⟩ := pw53 (t := t) hO (2 ^ r 5 - 1) 1 FU 0 0 _ (f3.ag hO p2.1.agC) (fun a b c d => ((sI_na (by decide)).trans (sI_na (by decide))).trans (f4 a b c d)) (fun a b => ((sI_na (by decide)).trans (sI_na (by decide))).trans (f5 a b)) (fun S a b c w hw => by omega) ((sI_nj (by decide)).trans (sI_eq _ _ _ _)) (sI_eq _ _ _ _) (by decide) (by decide) (by omega) (by decide) (FU_pos (by omega))
  refine ⟨m2, ?_, (f2.tr p2).1.tr g2, g3, g4⟩
  unfold fX4_packWords
  rw [show (0 : Int32) = nI 0 from rfl, e, f1]
  exact g1
end PK3
