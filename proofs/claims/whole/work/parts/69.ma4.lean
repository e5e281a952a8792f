/-! mendAll: the class's bounds, claims and releases -/
def ahA (r : Nat → Nat) (is : List Nat) : Nat → Nat
  | 0 => 0
  | d + 1 => ahA r is d ||| lbw r (is.getD d 0)
def uN : Option Nat → Int32
  | none => -nI 1
  | some l => nI l
theorem drop_cons {L : List Nat} {k : Nat} (h : k < L.length) : L.drop k = L.getD k 0 :: L.drop (k + 1) := by
  rw [List.drop_eq_getElem_cons h, List.getD_eq_getElem?_getD, List.getElem?_eq_getElem h]
  rfl
section MA4
variable {m : Me} {H : Bool} {t : Nat} {r s : Nat → Nat} {x1 x2 x3 x4 : Int32}
theorem lb4 {a : Nat} {w : List Nat} (h : SY m a w) (hw : w.length ≤ 8) (hl : ∀ k, k < w.length → w.getD k 0 ≤ 25) : ∀ j k n acc, k + j = w.length → j < n → fX8_letterBits_4 n a (nI acc) (nI k) m = some (nI (lbt w k j acc), m) := by
  intro j
  induction j with
  | zero =>
    intro k n acc hk hn
    obtain ⟨n, rfl⟩ : ∃ n', n = n' + 1 := ⟨n - 1, by omega⟩
    rw [fX8_letterBits_4, lbt]
    simp (disch := omega) only [h.1, cl2_so, cl1_so, ck_tr, zl_0, zl_1, zl_2, zl_3, zl_4, zl_5, zl_6, zl_7, zl_8, zl_9, zl_10, zl_11, zl_12, zl_15, zl_16, zl_20, zl_24, zl_25, zl_30, zl_31, zl_32, zl_33, zl_44, zl_48, zl_50, zl_57, zl_59, zl_60, zl_61, zl_62, zl_63, zl_64, zl_68, zl_97, zl_99, zl_100, zl_104, zl_108, zl_114, zl_120, zl_122, zl_126, zl_132, zl_180, zl_181, zl_186, zl_255, zl_900, zl_930, zl_1000, zl_1000000, nI_add, pk_mul, zs_sub, zs_lt, zs_le, zs_eq, zs_inb, zs_cl, zm_eq, zm_eq2, zm_lt, zm_le, mz_lt, mz_le, mm_eq, zs_bit, zs_or1, zs_div, zs_rem, ck_pos, if_pos, if_neg, true_or, or_true, true_and, and_true, false_or, or_false, false_and, and_false, not_true, not_false_iff, if_true, if_false, eq_self, Bool.false_eq_true, cl2_id, Bool.not_true, Bool.not_false]
  | succ j ih =>
    intro k n acc hk hn
    obtain ⟨n, rfl⟩ : ∃ n', n = n' + 1 := ⟨n - 1, by omega⟩
    have e1 := h.2 k (by omega)
    have b1 := hl k (by omega)
    rw [fX8_letterBits_4, lbt]
    simp (disch := omega) only [h.1, e1, cl2_so, cl1_so, ck_tr, zl_0, zl_1, zl_2, zl_3, zl_4, zl_5, zl_6, zl_7, zl_8, zl_9, zl_10, zl_11, zl_12, zl_15, zl_16, zl_20, zl_24, zl_25, zl_30, zl_31, zl_32, zl_33, zl_44, zl_48, zl_50, zl_57, zl_59, zl_60, zl_61, zl_62, zl_63, zl_64, zl_68, zl_97, zl_99, zl_100, zl_104, zl_108, zl_114, zl_120, zl_122, zl_126, zl_132, zl_180, zl_181, zl_186, zl_255, zl_900, zl_930, zl_1000, zl_1000000, nI_add, pk_mul, zs_sub, zs_lt, zs_le, zs_eq, zs_inb, zs_cl, zm_eq, zm_eq2, zm_lt, zm_le, mz_lt, mz_le, mm_eq, zs_bit, zs_or1, zs_div, zs_rem, ck_pos, if_pos, if_neg, true_or, or_true, true_and, and_true, false_or, or_false, false_and, and_false, not_true, not_false_iff, if_true, if_false, eq_self, Bool.false_eq_true, cl2_id, Bool.not_true, Bool.not_false]
    exact ih (k + 1) n _ (by omega) (by omega)
/-- what the class holds of the wish at a depth -/
def GW (m : Me) (t : Nat) (r s : Nat → Nat) (e d i : Nat) : Prop := i < r 6 ∧ r (100 + i) = e ∧ rr m 98 d = t + 19 + 2 * i ∧ SY m (t + 19 + 2 * i) (z_wish r i) ∧ m.1 (102 + 5 * d) 2 = nI (zWs r s i).length ∧ (∀ k, k < (zWs r s i).length → m.1 (102 + 5 * d + 1) k = nI (z_cc r ((zWs r s i).getD k 0)) ∧ m.1 (102 + 5 * d + 2) k = nI (s (30 * e + (zWs r s i).getD k 0)))
theorem GS.gw {e : Nat} {is : List Nat} (h : GS m t r s e is) (hK : KC m t r s) (his : ∀ d, d < is.length → is.getD d 0 < r 6 ∧ r (100 + is.getD d 0) = e) {d : Nat} (hd : d < is.length) : GW m t r s e d (is.getD d 0) := by
  obtain ⟨h1, h2⟩ := his d hd
  obtain ⟨-, ⟨g2, g3⟩, g4, g5⟩ := h.2 d hd
  have el : (zT r s e (r (104 + is.getD d 0)) (s 60)).length = (zWs r s (is.getD d 0)).length := by
    unfold zWs
    rw [h2]
    exact zT_len _ _ _
  have e0 : zWs r s (is.getD d 0) = z_show r e (r (104 + is.getD d 0)) (s 60) := by unfold zWs; rw [h2]
  refine ⟨h1, h2, h.rr hd, (hK.wish h1).1, by rw [← el]; exact g2, fun k hk => ⟨?_, ?_⟩⟩
  · rw [g5 k (by simpa using hk), getD_map0 hk]
  · rw [g3 k (by rw [el]; exact hk), e0, zT_at (by rw [← e0]; exact hk)]
theorem GW.sy {e d i : Nat} (h : GW m t r s e d i) : m.1 (t + 19 + 2 * i) 1 = nI (r (64 + i)) ∧ ∀ k, k < r (64 + i) → m.1 (t + 19 + 2 * i + 1) k = nI (mlt r i k) := by
  obtain ⟨-, -, -, ⟨h1, h2⟩, -⟩ := h
  rw [z_wish_len] at h1 h2
  refine ⟨h1, fun k hk => ?_⟩
  rw [h2 k hk]
  congr 1
  exact z_w_at hk
theorem lu4 (hO : KO r s) (h : KC m t r s) {e : Nat} {is : List Nat} (hG : GS m t r s e is) (his : ∀ d, d < is.length → is.getD d 0 < r 6 ∧ r (100 + is.getD d 0) = e) (hl : is.length ≤ 4) {d : Nat} (hd : d < is.length) : ∀ j k n, k + j = d → j < n → fX3_leastUnshared_4 n (nI d) (nI (ahA r is k)) (nI k) m = fX3_leastUnshared_33 FU (nI d) (nI (ahA r is d)) (nI 8) (nI 0) m := by
  intro j
  induction j with
  | zero =>
    intro k n hk hn
    obtain ⟨n, rfl⟩ : ∃ n', n = n' + 1 := ⟨n - 1, by omega⟩
    have : k = d := by omega
    subst this
    rw [fX3_leastUnshared_4]
    simp (disch := omega) only [cl2_so, cl1_so, ck_tr, zl_0, zl_1, zl_2, zl_3, zl_4, zl_5, zl_6, zl_7, zl_8, zl_9, zl_10, zl_11, zl_12, zl_15, zl_16, zl_20, zl_24, zl_25, zl_30, zl_31, zl_32, zl_33, zl_44, zl_48, zl_50, zl_57, zl_59, zl_60, zl_61, zl_62, zl_63, zl_64, zl_68, zl_97, zl_99, zl_100, zl_104, zl_108, zl_114, zl_120, zl_122, zl_126, zl_132, zl_180, zl_181, zl_186, zl_255, zl_900, zl_930, zl_1000, zl_1000000, nI_add, pk_mul, zs_sub, zs_lt, zs_le, zs_eq, zs_inb, zs_cl, zm_eq, zm_eq2, zm_lt, zm_le, mz_lt, mz_le, mm_eq, zs_bit, zs_or1, zs_div, zs_rem, ck_pos, if_pos, if_neg, true_or, or_true, true_and, and_true, false_or, or_false, false_and, and_false, not_true, not_false_iff, if_true, if_false, eq_self, Bool.false_eq_true, cl2_id, Bool.not_true, Bool.not_false]
  | succ j ih =>
    intro k n hk hn
    obtain ⟨n, rfl⟩ : ∃ n', n = n' + 1 := ⟨n - 1, by omega⟩
    obtain ⟨h1, h2⟩ := his k (by omega)
    have er := hG.rr (d := k) (by omega)
    have hw := wish_ok hO.1 h1
    have el := lb4 (h.wish h1).1 hw.2.1 (wish_le hO.1 h1) (r (64 + is.getD k 0)) 0 FU 0 (by rw [z_wish_len]; omega) (FU_pos (by have := (hO.1.i h1).2.2.1; omega))
    have el' : fX8_letterBits (t + 19 + 2 * is.getD k 0) m = some (nI (lbw r (is.getD k 0)), m) := el
    have ih' := ih (k + 1) n (by omega) (by omega)
    rw [fX3_leastUnshared_4]
    simp (disch := omega) only [er, el', nI_orN (ahA r is k) (lbw r (is.getD k 0)), cl2_so, cl1_so, ck_tr, zl_0, zl_1, zl_2, zl_3, zl_4, zl_5, zl_6, zl_7, zl_8, zl_9, zl_10, zl_11, zl_12, zl_15, zl_16, zl_20, zl_24, zl_25, zl_30, zl_31, zl_32, zl_33, zl_44, zl_48, zl_50, zl_57, zl_59, zl_60, zl_61, zl_62, zl_63, zl_64, zl_68, zl_97, zl_99, zl_100, zl_104, zl_108, zl_114, zl_120, zl_122, zl_126, zl_132, zl_180, zl_181, zl_186, zl_255, zl_900, zl_930, zl_1000, zl_1000000, nI_add, pk_mul, zs_sub, zs_lt, zs_le, zs_eq, zs_inb, zs_cl, zm_eq, zm_eq2, zm_lt, zm_le, mz_lt, mz_le, mm_eq, zs_bit, zs_or1, zs_div, zs_rem, ck_pos, if_pos, if_neg, true_or, or_true, true_and, and_true, false_or, or_false, false_and, and_false, not_true, not_false_iff, if_true, if_false, eq_self, Bool.false_eq_true, cl2_id, Bool.not_true, Bool.not_false]
    exact ih'
theorem cu6 (hO : KO r s) {e d i p A : Nat} (hG : GW m t r s e d i) (hd : d < 4) (hp : p + r (64 + i) ≤ (zWs r s i).length) (hA : A < 67108864) : ∀ j k n q, k + j = r (64 + i) → j < n → q ≤ k → fX3_countUnshared_6 n (nI d) (nI p) (nI A) (nI q) (nI k) m = some (nI (q + z_ct (cup r s A i p) k j), m) := by
  obtain ⟨f1, f2⟩ := hG.sy
  obtain ⟨hi, he, er, -, g1, g2⟩ := hG
  obtain ⟨-, o1, o8, oS, oO, oL⟩ := hO.1.i hi
  obtain ⟨hL, hl⟩ := zWs_ok hO hi
  intro j
  induction j with
  | zero =>
    intro k n q hk hn hq
    obtain ⟨n, rfl⟩ : ∃ n', n = n' + 1 := ⟨n - 1, by omega⟩
    rw [fX3_countUnshared_6, z_ct]
    simp (disch := omega) only [er, f1, Nat.add_zero, cl2_so, cl1_so, ck_tr, zl_0, zl_1, zl_2, zl_3, zl_4, zl_5, zl_6, zl_7, zl_8, zl_9, zl_10, zl_11, zl_12, zl_15, zl_16, zl_20, zl_24, zl_25, zl_30, zl_31, zl_32, zl_33, zl_44, zl_48, zl_50, zl_57, zl_59, zl_60, zl_61, zl_62, zl_63, zl_64, zl_68, zl_97, zl_99, zl_100, zl_104, zl_108, zl_114, zl_120, zl_122, zl_126, zl_132, zl_180, zl_181, zl_186, zl_255, zl_900, zl_930, zl_1000, zl_1000000, nI_add, pk_mul, zs_sub, zs_lt, zs_le, zs_eq, zs_inb, zs_cl, zm_eq, zm_eq2, zm_lt, zm_le, mz_lt, mz_le, mm_eq, zs_bit, zs_or1, zs_div, zs_rem, ck_pos, if_pos, if_neg, true_or, or_true, true_and, and_true, false_or, or_false, false_and, and_false, not_true, not_false_iff, if_true, if_false, eq_self, Bool.false_eq_true, cl2_id, Bool.not_true, Bool.not_false]
  | succ j ih =>
    intro k n q hk hn hq
    obtain ⟨n, rfl⟩ : ∃ n', n = n' + 1 := ⟨n - 1, by omega⟩
    have e2 := f2 k (by omega)
    have e3 := (g2 (p + k) (by omega)).2
    have e4 : mcl r s i p k = 30 * e + (zWs r s i).getD (p + k) 0 := by unfold mcl; rw [he]
    have b2 : mlt r i k ≤ 25 := oL k (by omega)
    have b3 := hO.2.1 (mcl r s i p k) (mcl_lt hO hi (by omega))
    rw [← e4] at e3
    rw [fX3_countUnshared_6, z_ct]
    unfold fX3_countUnshared_65
    have ih0 := ih (k + 1) n q (by omega) (by omega) (by omega)
    have ih1 := ih (k + 1) n (q + 1) (by omega) (by omega) (by omega)
    cases hb : A.testBit (mlt r i k)
    · by_cases hv : s (mcl r s i p k) = mlt r i k
      · have ec : cup r s A i p k = false := by unfold cup; rw [hb, decide_eq_true hv]; rfl
        rw [ec]
        simp only [Bool.false_eq_true, if_false, Nat.zero_add]
        simp (disch := omega) only [er, f1, e2, hb, e3, hv, cl2_so, cl1_so, ck_tr, zl_0, zl_1, zl_2, zl_3, zl_4, zl_5, zl_6, zl_7, zl_8, zl_9, zl_10, zl_11, zl_12, zl_15, zl_16, zl_20, zl_24, zl_25, zl_30, zl_31, zl_32, zl_33, zl_44, zl_48, zl_50, zl_57, zl_59, zl_60, zl_61, zl_62, zl_63, zl_64, zl_68, zl_97, zl_99, zl_100, zl_104, zl_108, zl_114, zl_120, zl_122, zl_126, zl_132, zl_180, zl_181, zl_186, zl_255, zl_900, zl_930, zl_1000, zl_1000000, nI_add, pk_mul, zs_sub, zs_lt, zs_le, zs_eq, zs_inb, zs_cl, zm_eq, zm_eq2, zm_lt, zm_le, mz_lt, mz_le, mm_eq, zs_bit, zs_or1, zs_div, zs_rem, ck_pos, if_pos, if_neg, true_or, or_true, true_and, and_true, false_or, or_false, false_and, and_false, not_true, not_false_iff, if_true, if_false, eq_self, Bool.false_eq_true, cl2_id, Bool.not_true, Bool.not_false]
        exact ih0
      · have ec : cup r s A i p k = true := by unfold cup; rw [hb, decide_eq_false hv]; rfl
        rw [ec]
        simp only [if_true, ← Nat.add_assoc]
        simp (disch := omega) only [er, f1, e2, hb, e3, hv, cl2_so, cl1_so, ck_tr, zl_0, zl_1, zl_2, zl_3, zl_4, zl_5, zl_6, zl_7, zl_8, zl_9, zl_10, zl_11, zl_12, zl_15, zl_16, zl_20, zl_24, zl_25, zl_30, zl_31, zl_32, zl_33, zl_44, zl_48, zl_50, zl_57, zl_59, zl_60, zl_61, zl_62, zl_63, zl_64, zl_68, zl_97, zl_99, zl_100, zl_104, zl_108, zl_114, zl_120, zl_122, zl_126, zl_132, zl_180, zl_181, zl_186, zl_255, zl_900, zl_930, zl_1000, zl_1000000, nI_add, pk_mul, zs_sub, zs_lt, zs_le, zs_eq, zs_inb, zs_cl, zm_eq, zm_eq2, zm_lt, zm_le, mz_lt, mz_le, mm_eq, zs_bit, zs_or1, zs_div, zs_rem, ck_pos, if_pos, if_neg, true_or, or_true, true_and, and_true, false_or, or_false, false_and, and_false, not_true, not_false_iff, if_true, if_false, eq_self, Bool.false_eq_true, cl2_id, Bool.not_true, Bool.not_false]
        exact ih1
    · have ec : cup r s A i p k = false := by unfold cup; rw [hb]; rfl
      rw [ec]
      simp only [Bool.false_eq_true, if_false, Nat.zero_add]
      simp (disch := omega) only [er, f1, e2, hb, cl2_so, cl1_so, ck_tr, zl_0, zl_1, zl_2, zl_3, zl_4, zl_5, zl_6, zl_7, zl_8, zl_9, zl_10, zl_11, zl_12, zl_15, zl_16, zl_20, zl_24, zl_25, zl_30, zl_31, zl_32, zl_33, zl_44, zl_48, zl_50, zl_57, zl_59, zl_60, zl_61, zl_62, zl_63, zl_64, zl_68, zl_97, zl_99, zl_100, zl_104, zl_108, zl_114, zl_120, zl_122, zl_126, zl_132, zl_180, zl_181, zl_186, zl_255, zl_900, zl_930, zl_1000, zl_1000000, nI_add, pk_mul, zs_sub, zs_lt, zs_le, zs_eq, zs_inb, zs_cl, zm_eq, zm_eq2, zm_lt, zm_le, mz_lt, mz_le, mm_eq, zs_bit, zs_or1, zs_div, zs_rem, ck_pos, if_pos, if_neg, true_or, or_true, true_and, and_true, false_or, or_false, false_and, and_false, not_true, not_false_iff, if_true, if_false, eq_self, Bool.false_eq_true, cl2_id, Bool.not_true, Bool.not_false]
      exact ih0
theorem lu33 (hO : KO r s) {e d i A : Nat} (hG : GW m t r s e d i) (hd : d < 4) (hA : A < 67108864) : ∀ j p n a, p + j = npl r s i → j < n → a ≤ 8 → fX3_leastUnshared_33 n (nI d) (nI A) (nI a) (nI p) m = some (nI (luF r s A i p j a), m) := by
  obtain ⟨f1, f2⟩ := hG.sy
  have hG0 := hG
  obtain ⟨hi, he, er, -, g1, g2⟩ := hG
  obtain ⟨-, o1, o8, oS, oO, oL⟩ := hO.1.i hi
  obtain ⟨hL, hl⟩ := zWs_ok hO hi
  intro j
  induction j with
  | zero =>
    intro p n a hp hn ha
    obtain ⟨n, rfl⟩ : ∃ n', n = n' + 1 := ⟨n - 1, by omega⟩
    unfold npl at hp
    rw [fX3_leastUnshared_33, luF]
    simp (disch := omega) only [er, f1, g1, cl2_so, cl1_so, ck_tr, zl_0, zl_1, zl_2, zl_3, zl_4, zl_5, zl_6, zl_7, zl_8, zl_9, zl_10, zl_11, zl_12, zl_15, zl_16, zl_20, zl_24, zl_25, zl_30, zl_31, zl_32, zl_33, zl_44, zl_48, zl_50, zl_57, zl_59, zl_60, zl_61, zl_62, zl_63, zl_64, zl_68, zl_97, zl_99, zl_100, zl_104, zl_108, zl_114, zl_120, zl_122, zl_126, zl_132, zl_180, zl_181, zl_186, zl_255, zl_900, zl_930, zl_1000, zl_1000000, nI_add, pk_mul, zs_sub, zs_lt, zs_le, zs_eq, zs_inb, zs_cl, zm_eq, zm_eq2, zm_lt, zm_le, mz_lt, mz_le, mm_eq, zs_bit, zs_or1, zs_div, zs_rem, ck_pos, if_pos, if_neg, true_or, or_true, true_and, and_true, false_or, or_false, false_and, and_false, not_true, not_false_iff, if_true, if_false, eq_self, Bool.false_eq_true, cl2_id, Bool.not_true, Bool.not_false]
  | succ j ih =>
    intro p n a hp hn ha
    obtain ⟨n, rfl⟩ : ∃ n', n = n' + 1 := ⟨n - 1, by omega⟩
    have hp' : p + r (64 + i) ≤ (zWs r s i).length := by unfold npl at hp; omega
    have ec := cu6 hO hG0 hd hp' hA (r (64 + i)) 0 FU 0 (by omega) (FU_pos (by omega)) (by omega)
    rw [Nat.zero_add] at ec
    have ec' : fX3_countUnshared (nI d) (nI p) (nI A) m = some (nI (cuA r s A i p), m) := ec
    have hcu : cuA r s A i p ≤ 8 := Nat.le_trans (z_ct_le _ _ _) o8
    rw [fX3_leastUnshared_33, luF]
    by_cases hq : cuA r s A i p < a
    · rw [if_pos hq]
      simp (disch := omega) only [er, f1, g1, ec', hq, cl2_so, cl1_so, ck_tr, zl_0, zl_1, zl_2, zl_3, zl_4, zl_5, zl_6, zl_7, zl_8, zl_9, zl_10, zl_11, zl_12, zl_15, zl_16, zl_20, zl_24, zl_25, zl_30, zl_31, zl_32, zl_33, zl_44, zl_48, zl_50, zl_57, zl_59, zl_60, zl_61, zl_62, zl_63, zl_64, zl_68, zl_97, zl_99, zl_100, zl_104, zl_108, zl_114, zl_120, zl_122, zl_126, zl_132, zl_180, zl_181, zl_186, zl_255, zl_900, zl_930, zl_1000, zl_1000000, nI_add, pk_mul, zs_sub, zs_lt, zs_le, zs_eq, zs_inb, zs_cl, zm_eq, zm_eq2, zm_lt, zm_le, mz_lt, mz_le, mm_eq, zs_bit, zs_or1, zs_div, zs_rem, ck_pos, if_pos, if_neg, true_or, or_true, true_and, and_true, false_or, or_false, false_and, and_false, not_true, not_false_iff, if_true, if_false, eq_self, Bool.false_eq_true, cl2_id, Bool.not_true, Bool.not_false]
      exact ih (p + 1) n _ (by omega) (by omega) (by omega)
    · rw [if_neg hq]
      simp (disch := omega) only [er, f1, g1, ec', hq, cl2_so, cl1_so, ck_tr, zl_0, zl_1, zl_2, zl_3, zl_4, zl_5, zl_6, zl_7, zl_8, zl_9, zl_10, zl_11, zl_12, zl_15, zl_16, zl_20, zl_24, zl_25, zl_30, zl_31, zl_32, zl_33, zl_44, zl_48, zl_50, zl_57, zl_59, zl_60, zl_61, zl_62, zl_63, zl_64, zl_68, zl_97, zl_99, zl_100, zl_104, zl_108, zl_114, zl_120, zl_122, zl_126, zl_132, zl_180, zl_181, zl_186, zl_255, zl_900, zl_930, zl_1000, zl_1000000, nI_add, pk_mul, zs_sub, zs_lt, zs_le, zs_eq, zs_inb, zs_cl, zm_eq, zm_eq2, zm_lt, zm_le, mz_lt, mz_le, mm_eq, zs_bit, zs_or1, zs_div, zs_rem, ck_pos, if_pos, if_neg, true_or, or_true, true_and, and_true, false_or, or_false, false_and, and_false, not_true, not_false_iff, if_true, if_false, eq_self, Bool.false_eq_true, cl2_id, Bool.not_true, Bool.not_false]
      exact ih (p + 1) n _ (by omega) (by omega) (by omega)
theorem ahA_lt (hO : OKr r) {is : List Nat} (his : ∀ d, d < is.length → is.getD d 0 < r 6) : ∀ d, d ≤ is.length → ahA r is d < 67108864
  | 0, _ => by rw [ahA]; omega
  | d + 1, h => by
    rw [ahA]
    exact Nat.or_lt_two_pow (n := 26) (ahA_lt hO his d (by omega)) (lbw_lt hO (his d (by omega)))
def RS (m : Me) (r s : Nat → Nat) (is : List Nat) (k : Nat) : Prop := ∀ d, k ≤ d → d ≤ is.length → m.1 101 d = nI (rsL r s (ahA r is d) (is.drop d))
theorem rsL_at {is : List Nat} {d : Nat} (hd : d < is.length) : rsL r s (ahA r is d) (is.drop d) = rsL r s (ahA r is (d + 1)) (is.drop (d + 1)) + luA r s (ahA r is d) (is.getD d 0) := by
  rw [drop_cons hd, rsL]
  rfl
theorem rs_le {is : List Nat} (hl : is.length ≤ 4) (d : Nat) : rsL r s (ahA r is d) (is.drop d) ≤ 8 * (is.length - d) := by
  have := rsL_le (r := r) (s := s) (is.drop d) (ahA r is d)
  rw [List.length_drop] at this
  exact this
theorem GS.set1 {e : Nat} {is : List Nat} (h : GS m t r s e is) (k : Nat) (x : Int32) : GS (setI m 101 k x) t r s e is := by
  refine ⟨(sI_na (by decide)).trans h.1, fun d hd => ?_⟩
  obtain ⟨g1, ⟨g2, g3⟩, g4, g5⟩ := h.2 d hd
  exact ⟨g1, ⟨(sI_na (by omega)).trans g2, fun k hk => (sI_na (by omega)).trans (g3 k hk)⟩, (sI_na (by omega)).trans g4, fun k hk => (sI_na (by omega)).trans (g5 k hk)⟩
theorem br17 (hO : KO r s) {e : Nat} {is : List Nat} (his : ∀ d, d < is.length → is.getD d 0 < r 6 ∧ r (100 + is.getD d 0) = e) (hl : is.length ≤ 4) : ∀ k n (m : Me), KC m t r s → GS m t r s e is → RS m r s is k → k ≤ is.length → k < n → ∃ m', fX3_boundRests_17 n (nI k + -nI 1) m = some m' ∧ Ak sC m m' ∧ KC m' t r s ∧ GS m' t r s e is ∧ RS m' r s is 0 ∧ (∀ b j, b ≠ 101 → m'.1 b j = m.1 b j) := by
  intro k
  induction k with
  | zero =>
    intro n m h hG hR hk hn
    obtain ⟨n, rfl⟩ : ∃ n', n = n' + 1 := ⟨n - 1, by omega⟩
    refine ⟨m, ?_, Ak.rf m, h, hG, hR, fun _ _ _ => rfl⟩
    rw [fX3_boundRests_17, if_pos (by decide)]
  | succ k ih =>
    intro n m h hG hR hk hn
    obtain ⟨n, rfl⟩ : ∃ n', n = n' + 1 := ⟨n - 1, by omega⟩
    have ed := zs_dec (a := k + 1) (by omega)
    rw [Nat.add_sub_cancel] at ed
    have hA := ahA_lt hO.1 (fun d hd => (his d hd).1) k (by omega)
    have hw := hG.gw h his (d := k) (by omega)
    have hnp : npl r s (is.getD k 0) ≤ 31 := by have := (zWs_ok hO hw.1).1; unfold npl; omega
    have e1 := lu4 hO h hG his hl (d := k) (by omega) k 0 FU (by omega) (FU_pos (by omega))
    have e2 := lu33 hO hw (by omega) hA (npl r s (is.getD k 0)) 0 FU 8 (by omega) (FU_pos (by omega)) (by omega)
    have e3 : fX3_leastUnshared (nI k) m = some (nI (luA r s (ahA r is k) (is.getD k 0)), m) := e1.trans e2
    have e4 := hR (k + 1) (by omega) (by omega)
    have h8 := luA_8 (r := r) (s := s) (A := ahA r is k) (i := is.getD k 0)
    have hr8 := rs_le (r := r) (s := s) hl (k + 1)
    have a1 : Ak sC m (setI m 101 k (nI (rsL r s (ahA r is (k + 1)) (is.drop (k + 1)) + luA r s (ahA r is k) (is.getD k 0)))) := (Ak.rf m).set _ (sC_in (by omega) k)
    obtain ⟨m2, f1, f2, f3, f4, f5, f6⟩ := ih n _ (h.ag hO a1.agC) (hG.set1 _ _) (fun d hd1 hd2 => by
      by_cases q : d = k
      · subst q
        rw [sI_eq]
        exact congrArg nI (rsL_at (by omega)).symm
      · rw [sI_nj q]; exact hR d (by omega) hd2) (by omega) (by omega)
    refine ⟨m2, ?_, a1.tr f2, f3, f4, f5, fun b j hb => (f6 b j hb).trans (sI_na hb)⟩
    rw [fX3_boundRests_17, ed]
    simp (disch := omega) only [e3, e4, cl2_so, cl1_so, ck_tr, zl_0, zl_1, zl_2, zl_3, zl_4, zl_5, zl_6, zl_7, zl_8, zl_9, zl_10, zl_11, zl_12, zl_15, zl_16, zl_20, zl_24, zl_25, zl_30, zl_31, zl_32, zl_33, zl_44, zl_48, zl_50, zl_57, zl_59, zl_60, zl_61, zl_62, zl_63, zl_64, zl_68, zl_97, zl_99, zl_100, zl_104, zl_108, zl_114, zl_120, zl_122, zl_126, zl_132, zl_180, zl_181, zl_186, zl_255, zl_900, zl_930, zl_1000, zl_1000000, nI_add, pk_mul, zs_sub, zs_lt, zs_le, zs_eq, zs_inb, zs_cl, zm_eq, zm_eq2, zm_lt, zm_le, mz_lt, mz_le, mm_eq, zs_bit, zs_or1, zs_div, zs_rem, ck_pos, if_pos, if_neg, true_or, or_true, true_and, and_true, false_or, or_false, false_and, and_false, not_true, not_false_iff, if_true, if_false, eq_self, Bool.false_eq_true, cl2_id, Bool.not_true, Bool.not_false]
    exact f1
theorem KC.bounds (h : KC m t r s) (hO : KO r s) {e : Nat} {is : List Nat} (hG : GS m t r s e is) (his : ∀ d, d < is.length → is.getD d 0 < r 6 ∧ r (100 + is.getD d 0) = e) (hl : is.length ≤ 4) : ∃ m', fX3_boundRests m = some m' ∧ Ak sC m m' ∧ KC m' t r s ∧ GS m' t r s e is ∧ RS m' r s is 0 ∧ (∀ b j, b ≠ 101 → m'.1 b j = m.1 b j) := by
  have a1 : Ak sC m (setI m 101 is.length (nI 0)) := (Ak.rf m).set _ (sC_in (by omega) _)
  obtain ⟨m2, f1, f2, f3, f4, f5, f6⟩ := br17 (t := t) hO his hl is.length FU _ (h.ag hO a1.agC) (hG.set1 is.length (nI 0)) (fun d h1 h2 => by
    have : d = is.length := by omega
    subst this
    rw [sI_eq, List.drop_length]
    rfl) (Nat.le_refl _) (FU_pos (by omega))
  refine ⟨m2, ?_, a1.tr f2, f3, f4, f5, fun b j hb => (f6 b j hb).trans (sI_na hb)⟩
  have c2 := hG.1
  have c3 : (setI m 101 is.length (nI 0)).1 96 2 = nI is.length := (sI_na (by decide)).trans c2
  have es : nI is.length - nI 1 = nI is.length + -nI 1 := Int32.sub_eq_add_neg _ _
  unfold fX3_boundRests
  rw [c2, ck_pos ((z_inb (by omega)).mpr (by omega)), nI_clamp (by omega), zl_0, c3, zl_1, es]
  exact f1
/-! claims -/
def NB (m : Me) (r : Nat → Nat) (e : Nat) (N B : Nat → Option Nat) : Prop := ∀ x, x < 30 → vx r x → m.1 99 (z_cc r x) = uN (N (30 * e + x)) ∧ m.1 100 (z_cc r x) = uN (B x) ∧ (∀ l, N (30 * e + x) = some l → l ≤ 25) ∧ (∀ q, B x = some q → q < 4) ∧ (N (30 * e + x) = none ↔ B x = none)
def RlB (r s : Nat → Nat) (e i p d k : Nat) (N0 B0 N B : Nat → Option Nat) : Prop := ∀ x, x < 30 → vx r x → (B0 x ≠ none → B x = B0 x ∧ N (30 * e + x) = N0 (30 * e + x)) ∧ (B0 x = none → (B x = none ∧ N (30 * e + x) = none) ∨ (B x = some d ∧ ∃ q, k ≤ q ∧ q < r (64 + i) ∧ x = (zWs r s i).getD (p + q) 0))
end MA4
