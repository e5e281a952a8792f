/-! led -/
def ledN (g : Nat → Bool) (x : Int32) : Nat → Nat → Nat → Option Nat
  | 0, _, _ => none
  | n + 1, p, k => if g p then if nI k = x then some p else ledN g x n (p + 1) (k + 1) else ledN g x n (p + 1) k
def ledG (r s : Nat → Nat) (p : Nat) : Bool := decide (s (3 * (p / r 1) + p % r 1) = 25)
def ledC : Option Nat → Int32
  | none => -1
  | some c => nI c
def ledM (m : Me) : Option Nat → Option (Int32 × Me)
  | none => some (0, setI m 138 0 1)
  | some c => some (nI c, setI m 138 0 0)
theorem ledG_e {r s : Nat → Nat} {rib c : Nat} (hc : c < r 1) : ledG r s (r 1 * rib + c) = decide (s (3 * rib + c) = 25) := by
  unfold ledG
  rw [Nat.mul_add_div (by omega), Nat.div_eq_of_lt hc, Nat.mul_add_mod, Nat.mod_eq_of_lt hc, Nat.add_zero]
theorem ledN_neg (g : Nat → Bool) {x : Int32} (hx : x < 0) : ∀ n p k, k + n < 1000 → ledN g x n p k = none
  | 0, _, _, _ => rfl
  | n + 1, p, k, h => by
    have : ¬ nI k = x := by
      rintro rfl
      exact nI_pos (by omega) hx
    rw [ledN, if_neg this, ledN_neg g hx n _ _ (by omega), ledN_neg g hx n _ _ (by omega)]
    split <;> rfl
section LED
variable {m : Me} {H : Bool} {t : Nat} {r s : Nat → Nat} {x : Int32}
theorem lc4 (hC : KC m t r s) (hO : KO r s) : ∀ j p n k, p + j = r 0 * r 1 → j < n → fX10_bareOfFront_4 n x (nI k) (nI p) m = some (ledC (ledN (ledG r s) x j p k), m) := by
  obtain ⟨f0, f1, f2, f3, f4⟩ := hO.1.1
  have hb : r 0 * r 1 ≤ 30 := Nat.le_trans (Nat.mul_le_mul f1 f3) (by decide)
  have e0 := hC.2.2.1.1.1
  have e1 := hC.2.2.1.1.2.1
  have et := hC.1
  intro j
  induction j with
  | zero =>
    intro p n k hp hn
    obtain ⟨n, rfl⟩ : ∃ n', n = n' + 1 := ⟨n - 1, by omega⟩
    rw [fX10_bareOfFront_4, ledN, ledC]
    simp (disch := omega) only [et, e0, e1, cl2_so, cl1_so, ck_tr, zl_0, zl_1, zl_2, zl_3, zl_4, zl_5, zl_6, zl_7, zl_8, zl_9, zl_10, zl_11, zl_12, zl_15, zl_16, zl_20, zl_24, zl_25, zl_30, zl_31, zl_32, zl_33, zl_44, zl_48, zl_50, zl_57, zl_59, zl_60, zl_61, zl_62, zl_63, zl_64, zl_68, zl_97, zl_99, zl_100, zl_104, zl_108, zl_114, zl_120, zl_122, zl_126, zl_132, zl_180, zl_181, zl_186, zl_255, zl_900, zl_930, zl_1000, zl_1000000, nI_add, pk_mul, zs_sub, zs_lt, zs_le, zs_eq, zs_inb, zs_cl, zm_eq, zm_eq2, zm_lt, zm_le, mz_lt, mz_le, mm_eq, zs_bit, zs_or1, zs_div, zs_rem, ck_pos, if_pos, if_neg, true_or, or_true, true_and, and_true, false_or, or_false, false_and, and_false, not_true, not_false_iff, if_true, if_false, eq_self, Bool.false_eq_true, cl2_id, Bool.not_true, Bool.not_false]
  | succ j ih =>
    intro p n k hp hn
    obtain ⟨n, rfl⟩ : ∃ n', n = n' + 1 := ⟨n - 1, by omega⟩
    rw [fX10_bareOfFront_4, ledN]
    have hp' : p < r 0 * r 1 := by omega
    have hd : p / r 1 < r 0 := Nat.div_lt_of_lt_mul (by rw [Nat.mul_comm]; exact hp')
    have hm : p % r 1 < r 1 := Nat.mod_lt _ (by omega)
    have hq := hC.2.2.2.1.1 0 (p / r 1) (p % r 1) (by omega) hd hm
    rw [Nat.div_add_mod, Nat.zero_mul, Nat.zero_add] at hq
    have hl := hO.2.1 (30 * 0 + (3 * (p / r 1) + p % r 1)) (by omega)
    rw [Nat.mul_zero, Nat.zero_add] at hl
    rw [Nat.zero_add] at hq
    have e2 : fX5_letterOf 81 (nI 0) (nI p) m = some (nI (s (3 * (p / r 1) + p % r 1)), m) := fX5_letterOf_e (by omega) (by rw [Nat.zero_mul, Nat.zero_add]; exact hq)
    have i1 := ih (p + 1) n k (by omega) (by omega)
    have i2 := ih (p + 1) n (k + 1) (by omega) (by omega)
    by_cases hg : s (3 * (p / r 1) + p % r 1) = 25
    · have hg' : ledG r s p = true := decide_eq_true hg
      by_cases hk : nI k = x
      · simp (disch := omega) only [et, e0, e1, e2, hg, hg', hk, ledC, cl2_so, cl1_so, ck_tr, zl_0, zl_1, zl_2, zl_3, zl_4, zl_5, zl_6, zl_7, zl_8, zl_9, zl_10, zl_11, zl_12, zl_15, zl_16, zl_20, zl_24, zl_25, zl_30, zl_31, zl_32, zl_33, zl_44, zl_48, zl_50, zl_57, zl_59, zl_60, zl_61, zl_62, zl_63, zl_64, zl_68, zl_97, zl_99, zl_100, zl_104, zl_108, zl_114, zl_120, zl_122, zl_126, zl_132, zl_180, zl_181, zl_186, zl_255, zl_900, zl_930, zl_1000, zl_1000000, nI_add, pk_mul, zs_sub, zs_lt, zs_le, zs_eq, zs_inb, zs_cl, zm_eq, zm_eq2, zm_lt, zm_le, mz_lt, mz_le, mm_eq, zs_bit, zs_or1, zs_div, zs_rem, ck_pos, if_pos, if_neg, true_or, or_true, true_and, and_true, false_or, or_false, false_and, and_false, not_true, not_false_iff, if_true, if_false, eq_self, Bool.false_eq_true, cl2_id, Bool.not_true, Bool.not_false]
      · simp (disch := omega) only [et, e0, e1, e2, hg, hg', hk, fX10_bareOfFront_47, cl2_so, cl1_so, ck_tr, zl_0, zl_1, zl_2, zl_3, zl_4, zl_5, zl_6, zl_7, zl_8, zl_9, zl_10, zl_11, zl_12, zl_15, zl_16, zl_20, zl_24, zl_25, zl_30, zl_31, zl_32, zl_33, zl_44, zl_48, zl_50, zl_57, zl_59, zl_60, zl_61, zl_62, zl_63, zl_64, zl_68, zl_97, zl_99, zl_100, zl_104, zl_108, zl_114, zl_120, zl_122, zl_126, zl_132, zl_180, zl_181, zl_186, zl_255, zl_900, zl_930, zl_1000, zl_1000000, nI_add, pk_mul, zs_sub, zs_lt, zs_le, zs_eq, zs_inb, zs_cl, zm_eq, zm_eq2, zm_lt, zm_le, mz_lt, mz_le, mm_eq, zs_bit, zs_or1, zs_div, zs_rem, ck_pos, if_pos, if_neg, true_or, or_true, true_and, and_true, false_or, or_false, false_and, and_false, not_true, not_false_iff, if_true, if_false, eq_self, Bool.false_eq_true, cl2_id, Bool.not_true, Bool.not_false]
        exact i2
    · have hg' : ledG r s p = false := decide_eq_false hg
      simp (disch := omega) only [et, e0, e1, e2, hg, hg', fX10_bareOfFront_47, cl2_so, cl1_so, ck_tr, zl_0, zl_1, zl_2, zl_3, zl_4, zl_5, zl_6, zl_7, zl_8, zl_9, zl_10, zl_11, zl_12, zl_15, zl_16, zl_20, zl_24, zl_25, zl_30, zl_31, zl_32, zl_33, zl_44, zl_48, zl_50, zl_57, zl_59, zl_60, zl_61, zl_62, zl_63, zl_64, zl_68, zl_97, zl_99, zl_100, zl_104, zl_108, zl_114, zl_120, zl_122, zl_126, zl_132, zl_180, zl_181, zl_186, zl_255, zl_900, zl_930, zl_1000, zl_1000000, nI_add, pk_mul, zs_sub, zs_lt, zs_le, zs_eq, zs_inb, zs_cl, zm_eq, zm_eq2, zm_lt, zm_le, mz_lt, mz_le, mm_eq, zs_bit, zs_or1, zs_div, zs_rem, ck_pos, if_pos, if_neg, true_or, or_true, true_and, and_true, false_or, or_false, false_and, and_false, not_true, not_false_iff, if_true, if_false, eq_self, Bool.false_eq_true, cl2_id, Bool.not_true, Bool.not_false]
      exact i1
theorem lm24 (hM : KM m r s) (hO : KO r s) {rib N : Nat} (hr : rib < r 0) {k4 : Int32 → Int32 → Int32 → Me → Option (Int32 × Me)} (h4 : ∀ k, k4 x (nI k) (nI (rib + 1)) m = ledM m (ledN (ledG r s) x N (r 1 * (rib + 1)) k)) : ∀ j c n k, c + j = r 1 → j < n → fX11_led_24 n k4 x (nI k) (nI rib) (nI c) m = ledM m (ledN (ledG r s) x (j + N) (r 1 * rib + c) k) := by
  obtain ⟨f0, f1, f2, f3, f4⟩ := hO.1.1
  have e1 := hM.2.1 1 (by omega)
  intro j
  induction j with
  | zero =>
    intro c n k hp hn
    obtain ⟨n, rfl⟩ : ∃ n', n = n' + 1 := ⟨n - 1, by omega⟩
    rw [fX11_led_24]
    simp (disch := omega) only [e1, cl2_so, cl1_so, ck_tr, zl_0, zl_1, zl_2, zl_3, zl_4, zl_5, zl_6, zl_7, zl_8, zl_9, zl_10, zl_11, zl_12, zl_15, zl_16, zl_20, zl_24, zl_25, zl_30, zl_31, zl_32, zl_33, zl_44, zl_48, zl_50, zl_57, zl_59, zl_60, zl_61, zl_62, zl_63, zl_64, zl_68, zl_97, zl_99, zl_100, zl_104, zl_108, zl_114, zl_120, zl_122, zl_126, zl_132, zl_180, zl_181, zl_186, zl_255, zl_900, zl_930, zl_1000, zl_1000000, nI_add, pk_mul, zs_sub, zs_lt, zs_le, zs_eq, zs_inb, zs_cl, zm_eq, zm_eq2, zm_lt, zm_le, mz_lt, mz_le, mm_eq, zs_bit, zs_or1, zs_div, zs_rem, ck_pos, if_pos, if_neg, true_or, or_true, true_and, and_true, false_or, or_false, false_and, and_false, not_true, not_false_iff, if_true, if_false, eq_self, Bool.false_eq_true, cl2_id, Bool.not_true, Bool.not_false]
    rw [h4 k, show c = r 1 by omega, Nat.mul_succ, Nat.zero_add]
  | succ j ih =>
    intro c n k hp hn
    obtain ⟨n, rfl⟩ : ∃ n', n = n' + 1 := ⟨n - 1, by omega⟩
    rw [fX11_led_24, show j + 1 + N = (j + N) + 1 by omega, ledN, ledG_e (by omega)]
    have hx : 3 * rib + c < 60 := by omega
    have hl := hO.2.1 _ hx
    have e2 := hM.2.2 (3 * rib + c) (by omega)
    have i1 := ih (c + 1) n k (by omega) (by omega)
    have i2 := ih (c + 1) n (k + 1) (by omega) (by omega)
    by_cases hg : s (3 * rib + c) = 25
    · rw [decide_eq_true hg, if_pos rfl]
      by_cases hk : nI k = x
      · have e3 : (setI m 138 0 (nI 0)).1 141 1 = nI (r 1) := (sI_na (by decide)).trans e1
        simp (disch := omega) only [e1, e2, e3, hg, hk, ledM, cl2_so, cl1_so, ck_tr, zl_0, zl_1, zl_2, zl_3, zl_4, zl_5, zl_6, zl_7, zl_8, zl_9, zl_10, zl_11, zl_12, zl_15, zl_16, zl_20, zl_24, zl_25, zl_30, zl_31, zl_32, zl_33, zl_44, zl_48, zl_50, zl_57, zl_59, zl_60, zl_61, zl_62, zl_63, zl_64, zl_68, zl_97, zl_99, zl_100, zl_104, zl_108, zl_114, zl_120, zl_122, zl_126, zl_132, zl_180, zl_181, zl_186, zl_255, zl_900, zl_930, zl_1000, zl_1000000, nI_add, pk_mul, zs_sub, zs_lt, zs_le, zs_eq, zs_inb, zs_cl, zm_eq, zm_eq2, zm_lt, zm_le, mz_lt, mz_le, mm_eq, zs_bit, zs_or1, zs_div, zs_rem, ck_pos, if_pos, if_neg, true_or, or_true, true_and, and_true, false_or, or_false, false_and, and_false, not_true, not_false_iff, if_true, if_false, eq_self, Bool.false_eq_true, cl2_id, Bool.not_true, Bool.not_false]
      · simp (disch := omega) only [e1, e2, hg, hk, fX11_led_79, cl2_so, cl1_so, ck_tr, zl_0, zl_1, zl_2, zl_3, zl_4, zl_5, zl_6, zl_7, zl_8, zl_9, zl_10, zl_11, zl_12, zl_15, zl_16, zl_20, zl_24, zl_25, zl_30, zl_31, zl_32, zl_33, zl_44, zl_48, zl_50, zl_57, zl_59, zl_60, zl_61, zl_62, zl_63, zl_64, zl_68, zl_97, zl_99, zl_100, zl_104, zl_108, zl_114, zl_120, zl_122, zl_126, zl_132, zl_180, zl_181, zl_186, zl_255, zl_900, zl_930, zl_1000, zl_1000000, nI_add, pk_mul, zs_sub, zs_lt, zs_le, zs_eq, zs_inb, zs_cl, zm_eq, zm_eq2, zm_lt, zm_le, mz_lt, mz_le, mm_eq, zs_bit, zs_or1, zs_div, zs_rem, ck_pos, if_pos, if_neg, true_or, or_true, true_and, and_true, false_or, or_false, false_and, and_false, not_true, not_false_iff, if_true, if_false, eq_self, Bool.false_eq_true, cl2_id, Bool.not_true, Bool.not_false]
        exact i2
    · rw [decide_eq_false hg, if_neg Bool.false_ne_true]
      simp (disch := omega) only [e1, e2, hg, fX11_led_79, cl2_so, cl1_so, ck_tr, zl_0, zl_1, zl_2, zl_3, zl_4, zl_5, zl_6, zl_7, zl_8, zl_9, zl_10, zl_11, zl_12, zl_15, zl_16, zl_20, zl_24, zl_25, zl_30, zl_31, zl_32, zl_33, zl_44, zl_48, zl_50, zl_57, zl_59, zl_60, zl_61, zl_62, zl_63, zl_64, zl_68, zl_97, zl_99, zl_100, zl_104, zl_108, zl_114, zl_120, zl_122, zl_126, zl_132, zl_180, zl_181, zl_186, zl_255, zl_900, zl_930, zl_1000, zl_1000000, nI_add, pk_mul, zs_sub, zs_lt, zs_le, zs_eq, zs_inb, zs_cl, zm_eq, zm_eq2, zm_lt, zm_le, mz_lt, mz_le, mm_eq, zs_bit, zs_or1, zs_div, zs_rem, ck_pos, if_pos, if_neg, true_or, or_true, true_and, and_true, false_or, or_false, false_and, and_false, not_true, not_false_iff, if_true, if_false, eq_self, Bool.false_eq_true, cl2_id, Bool.not_true, Bool.not_false]
      exact i1
theorem lm4 (hM : KM m r s) (hO : KO r s) : ∀ j rib n k, rib + j = r 0 → j < n → fX11_led_4 n x (nI k) (nI rib) m = ledM m (ledN (ledG r s) x (j * r 1) (r 1 * rib) k) := by
  obtain ⟨f0, f1, f2, f3, f4⟩ := hO.1.1
  have e0 := hM.2.1 0 (by omega)
  have e1 := hM.1
  intro j
  induction j with
  | zero =>
    intro c n k hp hn
    obtain ⟨n, rfl⟩ : ∃ n', n = n' + 1 := ⟨n - 1, by omega⟩
    rw [fX11_led_4, Nat.zero_mul, ledN, ledM]
    simp (disch := omega) only [e0, e1, fX11_led_91, cl2_so, cl1_so, ck_tr, zl_0, zl_1, zl_2, zl_3, zl_4, zl_5, zl_6, zl_7, zl_8, zl_9, zl_10, zl_11, zl_12, zl_15, zl_16, zl_20, zl_24, zl_25, zl_30, zl_31, zl_32, zl_33, zl_44, zl_48, zl_50, zl_57, zl_59, zl_60, zl_61, zl_62, zl_63, zl_64, zl_68, zl_97, zl_99, zl_100, zl_104, zl_108, zl_114, zl_120, zl_122, zl_126, zl_132, zl_180, zl_181, zl_186, zl_255, zl_900, zl_930, zl_1000, zl_1000000, nI_add, pk_mul, zs_sub, zs_lt, zs_le, zs_eq, zs_inb, zs_cl, zm_eq, zm_eq2, zm_lt, zm_le, mz_lt, mz_le, mm_eq, zs_bit, zs_or1, zs_div, zs_rem, ck_pos, if_pos, if_neg, true_or, or_true, true_and, and_true, false_or, or_false, false_and, and_false, not_true, not_false_iff, if_true, if_false, eq_self, Bool.false_eq_true, cl2_id, Bool.not_true, Bool.not_false]
  | succ j ih =>
    intro c n k hp hn
    obtain ⟨n, rfl⟩ : ∃ n', n = n' + 1 := ⟨n - 1, by omega⟩
    rw [fX11_led_4, Nat.succ_mul, Nat.add_comm (j * r 1)]
    have := lm24 (x := x) hM hO (rib := c) (N := j * r 1) (by omega) (k4 := fX11_led_4 n) (fun k => ih (c + 1) n k (by omega) (by omega)) (r 1) 0 FU k (by omega) (FU_pos (by omega))
    simp (disch := omega) only [e0, e1, cl2_so, cl1_so, ck_tr, zl_0, zl_1, zl_2, zl_3, zl_4, zl_5, zl_6, zl_7, zl_8, zl_9, zl_10, zl_11, zl_12, zl_15, zl_16, zl_20, zl_24, zl_25, zl_30, zl_31, zl_32, zl_33, zl_44, zl_48, zl_50, zl_57, zl_59, zl_60, zl_61, zl_62, zl_63, zl_64, zl_68, zl_97, zl_99, zl_100, zl_104, zl_108, zl_114, zl_120, zl_122, zl_126, zl_132, zl_180, zl_181, zl_186, zl_255, zl_900, zl_930, zl_1000, zl_1000000, nI_add, pk_mul, zs_sub, zs_lt, zs_le, zs_eq, zs_inb, zs_cl, zm_eq, zm_eq2, zm_lt, zm_le, mz_lt, mz_le, mm_eq, zs_bit, zs_or1, zs_div, zs_rem, ck_pos, if_pos, if_neg, true_or, or_true, true_and, and_true, false_or, or_false, false_and, and_false, not_true, not_false_iff, if_true, if_false, eq_self, Bool.false_eq_true, cl2_id, Bool.not_true, Bool.not_false]
    exact this
theorem led_e (hI : Inv m) (hW : WI m) (x : Int32) : ∃ o : Option Nat, (∀ c, o = some c → c < 30 ∧ ¬ x < 0 ∧ ¬ m.1 0 4 = 0) ∧ (¬ x < 0 → ¬ m.1 0 4 = 0 → fX10_bareOfFront x m = some (ledC o, m)) ∧ fX11_led x m = ledM m o := by
  obtain ⟨H, r, s, T, L, b, U, ss, A, im, ⟨hC, hM, hO, hS⟩, hF, hT, hU, hA, hN, hD⟩ := id hW
  cases H with
  | false =>
    refine ⟨none, (fun c h => by cases h), fun _ h => absurd hC.1 h, ?_⟩
    have e := hM.1
    rw [fX11_led, show FU = 1999 + 1 from rfl, fX11_led_4, if_pos (show m.1 138 14 = 0 from e)]
    rfl
  | true =>
    obtain ⟨f0, f1, f2, f3, f4⟩ := (hO rfl).1.1
    have hb : r 0 * r 1 ≤ 30 := Nat.le_trans (Nat.mul_le_mul f1 f3) (by decide)
    have q := lm4 (x := x) hM.km (hO rfl) (r 0) 0 FU 0 (by omega) (FU_pos (by omega))
    have c1 : m.1 0 4 = nI 1 := hC.1
    refine ⟨ledN (ledG r s) x (r 0 * r 1) 0 0, fun c h => ?_, fun hx _ => ?_, q⟩
    · have hx : ¬ x < 0 := fun hx => by
        rw [ledN_neg _ hx _ _ _ (by omega)] at h
        cases h
      refine ⟨?_, hx, by rw [c1]; decide⟩
      have : ∀ n p k, p + n ≤ 30 → ledN (ledG r s) x n p k = some c → c < 30 := by
        intro n
        induction n with
        | zero => intro p k _ h; cases h
        | succ n ih =>
          intro p k hp h
          rw [ledN] at h
          split at h
          · split at h
            · cases h; omega
            · exact ih _ _ (by omega) h
          · exact ih _ _ (by omega) h
      exact this _ _ _ (by omega) h
    · exact lc4 (x := x) (hC.kc hI) (hO rfl) (r 0 * r 1) 0 FU 0 (by omega) (FU_pos (by omega))
theorem WI.led (hI : Inv m) (hW : WI m) (o : Option Nat) : ∃ v m', ledM m o = some (v, m') ∧ WI m' := by
  cases o with
  | none => exact ⟨_, _, rfl, hW.th hI _⟩
  | some c => exact ⟨_, _, rfl, hW.th hI _⟩
end LED
