/-! pack: the reference's search, and both -/
def pkA (x : Int32) (b : Nat × Nat) : Int32 := if x = nI 0 then nI (pcn b.1) else if x = nI 1 then nI b.1 else nI b.2
def mayW (r : Nat → Nat) (S w : Nat) : Bool := !S.testBit w || !z_bare (z_word r w)
section PK5
variable {m : Me} {H : Bool} {t : Nat} {r s : Nat → Nat} {x1 x2 x3 x4 : Int32}
theorem pk66f (h : KM m r s) (hO : KO r s) {S w : Nat} (hS : S < 64) (hw : w < r 5) (hb : S.testBit w = false) {k33 : Int32 → Int32 → Int32 → Int32 → Me → Option (Int32 × Me)} {k52 : Int32 → Int32 → Int32 → Int32 → Int32 → Int32 → Me → Option (Int32 × Me)} {x5 : Int32} : fX11_pack_66 FU k33 k52 x1 x2 x3 (nI S) x5 (nI w) (nI 0) m = k52 x1 x2 x3 (nI S) x5 (nI (w + 1)) m := by
  obtain ⟨w8, w1, h5, wb⟩ := wl_lt hO hw
  have e1 := h.2.1 (10 + w) (by omega)
  have eh := fX11_has_e (br := S) (k := w) (by omega) (by omega) m
  rw [hb] at eh
  rw [FU_s, fX11_pack_66]
  unfold fX11_pack_122
  simp (disch := omega) only [e1, eh, cl2_so, cl1_so, ck_tr, zl_0, zl_1, zl_2, zl_3, zl_4, zl_5, zl_6, zl_7, zl_8, zl_9, zl_10, zl_11, zl_12, zl_15, zl_16, zl_20, zl_24, zl_25, zl_30, zl_31, zl_32, zl_33, zl_44, zl_48, zl_50, zl_57, zl_59, zl_60, zl_61, zl_62, zl_63, zl_64, zl_68, zl_97, zl_99, zl_100, zl_104, zl_108, zl_114, zl_120, zl_122, zl_126, zl_132, zl_180, zl_181, zl_186, zl_255, zl_900, zl_930, zl_1000, zl_1000000, nI_add, pk_mul, zs_sub, zs_lt, zs_le, zs_eq, zs_inb, zs_cl, zm_eq, zm_eq2, zm_lt, zm_le, mz_lt, mz_le, mm_eq, zs_bit, zs_or1, zs_div, zs_rem, ck_pos, if_pos, if_neg, true_or, or_true, true_and, and_true, false_or, or_false, false_and, and_false, not_true, not_false_iff, if_true, if_false, eq_self, Bool.false_eq_true, cl2_id, Bool.not_true, Bool.not_false]
theorem pk66t (h : KM m r s) (hO : KO r s) {S w : Nat} (hS : S < 64) (hw : w < r 5) (hb : S.testBit w = true) {k33 : Int32 → Int32 → Int32 → Int32 → Me → Option (Int32 × Me)} {k52 : Int32 → Int32 → Int32 → Int32 → Int32 → Int32 → Me → Option (Int32 × Me)} : ∀ j k n (b : Bool), k + j = r (10 + w) → j < n → fX11_pack_66 n k33 k52 x1 x2 x3 (nI S) (nI (if b then 1 else 0)) (nI w) (nI k) m = k52 x1 x2 x3 (nI S) (nI (if b && z_al (fun i => decide ((z_word r w).getD i 0 ≠ 25)) k j then 1 else 0)) (nI (w + 1)) m := by
  obtain ⟨w8, w1, h5, wb⟩ := wl_lt hO hw
  have e1 := h.2.1 (10 + w) (by omega)
  have eh := fX11_has_e (br := S) (k := w) (by omega) (by omega) m
  rw [hb] at eh
  intro j
  induction j with
  | zero =>
    intro k n b hk hn
    obtain ⟨n, rfl⟩ : ∃ n', n = n' + 1 := ⟨n - 1, by omega⟩
    rw [fX11_pack_66, z_al, Bool.and_true]
    unfold fX11_pack_122
    simp (disch := omega) only [e1, cl2_so, cl1_so, ck_tr, zl_0, zl_1, zl_2, zl_3, zl_4, zl_5, zl_6, zl_7, zl_8, zl_9, zl_10, zl_11, zl_12, zl_15, zl_16, zl_20, zl_24, zl_25, zl_30, zl_31, zl_32, zl_33, zl_44, zl_48, zl_50, zl_57, zl_59, zl_60, zl_61, zl_62, zl_63, zl_64, zl_68, zl_97, zl_99, zl_100, zl_104, zl_108, zl_114, zl_120, zl_122, zl_126, zl_132, zl_180, zl_181, zl_186, zl_255, zl_900, zl_930, zl_1000, zl_1000000, nI_add, pk_mul, zs_sub, zs_lt, zs_le, zs_eq, zs_inb, zs_cl, zm_eq, zm_eq2, zm_lt, zm_le, mz_lt, mz_le, mm_eq, zs_bit, zs_or1, zs_div, zs_rem, ck_pos, if_pos, if_neg, true_or, or_true, true_and, and_true, false_or, or_false, false_and, and_false, not_true, not_false_iff, if_true, if_false, eq_self, Bool.false_eq_true, cl2_id, Bool.not_true, Bool.not_false]
  | succ j ih =>
    intro k n b hk hn
    obtain ⟨n, rfl⟩ : ∃ n', n = n' + 1 := ⟨n - 1, by omega⟩
    have el := h.letterOf hO hw (k := k) (by omega)
    have hlb := wb k (by omega)
    have ih1 := ih (k + 1) n true (by omega) (by omega)
    have ih0 := ih (k + 1) n false (by omega) (by omega)
    simp only [Bool.false_eq_true, if_false, if_true, Bool.false_and, Bool.true_and] at ih0 ih1
    rw [fX11_pack_66, z_al]
    unfold fX11_pack_113 fX11_pack_114
    cases b
    · simp only [Bool.false_eq_true, if_false, Bool.false_and]
      simp (disch := omega) only [e1, eh, cl2_so, cl1_so, ck_tr, zl_0, zl_1, zl_2, zl_3, zl_4, zl_5, zl_6, zl_7, zl_8, zl_9, zl_10, zl_11, zl_12, zl_15, zl_16, zl_20, zl_24, zl_25, zl_30, zl_31, zl_32, zl_33, zl_44, zl_48, zl_50, zl_57, zl_59, zl_60, zl_61, zl_62, zl_63, zl_64, zl_68, zl_97, zl_99, zl_100, zl_104, zl_108, zl_114, zl_120, zl_122, zl_126, zl_132, zl_180, zl_181, zl_186, zl_255, zl_900, zl_930, zl_1000, zl_1000000, nI_add, pk_mul, zs_sub, zs_lt, zs_le, zs_eq, zs_inb, zs_cl, zm_eq, zm_eq2, zm_lt, zm_le, mz_lt, mz_le, mm_eq, zs_bit, zs_or1, zs_div, zs_rem, ck_pos, if_pos, if_neg, true_or, or_true, true_and, and_true, false_or, or_false, false_and, and_false, not_true, not_false_iff, if_true, if_false, eq_self, Bool.false_eq_true, cl2_id, Bool.not_true, Bool.not_false]
      exact ih0
    · simp only [if_true, Bool.true_and]
      by_cases hz : (z_word r w).getD k 0 = 25
      · rw [decide_eq_false (fun q => q hz), Bool.false_and]
        simp only [Bool.false_eq_true, if_false]
        simp (disch := omega) only [e1, eh, el, hz, cl2_so, cl1_so, ck_tr, zl_0, zl_1, zl_2, zl_3, zl_4, zl_5, zl_6, zl_7, zl_8, zl_9, zl_10, zl_11, zl_12, zl_15, zl_16, zl_20, zl_24, zl_25, zl_30, zl_31, zl_32, zl_33, zl_44, zl_48, zl_50, zl_57, zl_59, zl_60, zl_61, zl_62, zl_63, zl_64, zl_68, zl_97, zl_99, zl_100, zl_104, zl_108, zl_114, zl_120, zl_122, zl_126, zl_132, zl_180, zl_181, zl_186, zl_255, zl_900, zl_930, zl_1000, zl_1000000, nI_add, pk_mul, zs_sub, zs_lt, zs_le, zs_eq, zs_inb, zs_cl, zm_eq, zm_eq2, zm_lt, zm_le, mz_lt, mz_le, mm_eq, zs_bit, zs_or1, zs_div, zs_rem, ck_pos, if_pos, if_neg, true_or, or_true, true_and, and_true, false_or, or_false, false_and, and_false, not_true, not_false_iff, if_true, if_false, eq_self, Bool.false_eq_true, cl2_id, Bool.not_true, Bool.not_false]
        exact ih0
      · rw [decide_eq_true hz, Bool.true_and]
        simp (disch := omega) only [e1, eh, el, hz, cl2_so, cl1_so, ck_tr, zl_0, zl_1, zl_2, zl_3, zl_4, zl_5, zl_6, zl_7, zl_8, zl_9, zl_10, zl_11, zl_12, zl_15, zl_16, zl_20, zl_24, zl_25, zl_30, zl_31, zl_32, zl_33, zl_44, zl_48, zl_50, zl_57, zl_59, zl_60, zl_61, zl_62, zl_63, zl_64, zl_68, zl_97, zl_99, zl_100, zl_104, zl_108, zl_114, zl_120, zl_122, zl_126, zl_132, zl_180, zl_181, zl_186, zl_255, zl_900, zl_930, zl_1000, zl_1000000, nI_add, pk_mul, zs_sub, zs_lt, zs_le, zs_eq, zs_inb, zs_cl, zm_eq, zm_eq2, zm_lt, zm_le, mz_lt, mz_le, mm_eq, zs_bit, zs_or1, zs_div, zs_rem, ck_pos, if_pos, if_neg, true_or, or_true, true_and, and_true, false_or, or_false, false_and, and_false, not_true, not_false_iff, if_true, if_false, eq_self, Bool.false_eq_true, cl2_id, Bool.not_true, Bool.not_false]
        exact ih1
theorem pk66 (h : KM m r s) (hO : KO r s) {S w : Nat} (hS : S < 64) (hw : w < r 5) {k33 : Int32 → Int32 → Int32 → Int32 → Me → Option (Int32 × Me)} {k52 : Int32 → Int32 → Int32 → Int32 → Int32 → Int32 → Me → Option (Int32 × Me)} (b : Bool) : fX11_pack_66 FU k33 k52 x1 x2 x3 (nI S) (nI (if b then 1 else 0)) (nI w) (nI 0) m = k52 x1 x2 x3 (nI S) (nI (if b && mayW r S w then 1 else 0)) (nI (w + 1)) m := by
  obtain ⟨w8, w1, h5, wb⟩ := wl_lt hO hw
  cases hb : S.testBit w
  · have e : mayW r S w = true := by unfold mayW; rw [hb]; rfl
    rw [pk66f h hO hS hw hb, e, Bool.and_true]
  · have e : mayW r S w = z_al (fun i => decide ((z_word r w).getD i 0 ≠ 25)) 0 (r (10 + w)) := by
      unfold mayW z_bare
      rw [hb, z_word_len]
      simp
    rw [pk66t h hO hS hw hb (r (10 + w)) 0 FU b (by omega) (FU_pos (by omega)), e]
theorem pk52 (h : KM m r s) (hO : KO r s) {S : Nat} (hS : S < 64) {k33 : Int32 → Int32 → Int32 → Int32 → Me → Option (Int32 × Me)} : ∀ j k n (b : Bool), k + j = r 5 → j < n → fX11_pack_52 n k33 x1 x2 x3 (nI S) (nI (if b then 1 else 0)) (nI k) m = fX11_pack_52 (0 + 1) k33 x1 x2 x3 (nI S) (nI (if b && z_al (mayW r S) k j then 1 else 0)) (nI (r 5)) m := by
  have h5 := hO.1.w.1
  have e5 := h.2.1 5 (by omega)
  intro j
  induction j with
  | zero =>
    intro k n b hk hn
    obtain ⟨n, rfl⟩ : ∃ n', n = n' + 1 := ⟨n - 1, by omega⟩
    rw [z_al, Bool.and_true, show k = r 5 by omega]
    rw [fX11_pack_52, fX11_pack_52]
    simp (disch := omega) only [e5, cl2_so, cl1_so, ck_tr, zl_0, zl_1, zl_2, zl_3, zl_4, zl_5, zl_6, zl_7, zl_8, zl_9, zl_10, zl_11, zl_12, zl_15, zl_16, zl_20, zl_24, zl_25, zl_30, zl_31, zl_32, zl_33, zl_44, zl_48, zl_50, zl_57, zl_59, zl_60, zl_61, zl_62, zl_63, zl_64, zl_68, zl_97, zl_99, zl_100, zl_104, zl_108, zl_114, zl_120, zl_122, zl_126, zl_132, zl_180, zl_181, zl_186, zl_255, zl_900, zl_930, zl_1000, zl_1000000, nI_add, pk_mul, zs_sub, zs_lt, zs_le, zs_eq, zs_inb, zs_cl, zm_eq, zm_eq2, zm_lt, zm_le, mz_lt, mz_le, mm_eq, zs_bit, zs_or1, zs_div, zs_rem, ck_pos, if_pos, if_neg, true_or, or_true, true_and, and_true, false_or, or_false, false_and, and_false, not_true, not_false_iff, if_true, if_false, eq_self, Bool.false_eq_true, cl2_id, Bool.not_true, Bool.not_false]
  | succ j ih =>
    intro k n b hk hn
    obtain ⟨n, rfl⟩ : ∃ n', n = n' + 1 := ⟨n - 1, by omega⟩
    have e := pk66 (x1 := x1) (x2 := x2) (x3 := x3) h hO hS (w := k) (by omega) (k33 := k33) (k52 := fX11_pack_52 n k33) b
    rw [z_al, ← Bool.and_assoc]
    rw [fX11_pack_52]
    simp (disch := omega) only [e5, cl2_so, cl1_so, ck_tr, zl_0, zl_1, zl_2, zl_3, zl_4, zl_5, zl_6, zl_7, zl_8, zl_9, zl_10, zl_11, zl_12, zl_15, zl_16, zl_20, zl_24, zl_25, zl_30, zl_31, zl_32, zl_33, zl_44, zl_48, zl_50, zl_57, zl_59, zl_60, zl_61, zl_62, zl_63, zl_64, zl_68, zl_97, zl_99, zl_100, zl_104, zl_108, zl_114, zl_120, zl_122, zl_126, zl_132, zl_180, zl_181, zl_186, zl_255, zl_900, zl_930, zl_1000, zl_1000000, nI_add, pk_mul, zs_sub, zs_lt, zs_le, zs_eq, zs_inb, zs_cl, zm_eq, zm_eq2, zm_lt, zm_le, mz_lt, mz_le, mm_eq, zs_bit, zs_or1, zs_div, zs_rem, ck_pos, if_pos, if_neg, true_or, or_true, true_and, and_true, false_or, or_false, false_and, and_false, not_true, not_false_iff, if_true, if_false, eq_self, Bool.false_eq_true, cl2_id, Bool.not_true, Bool.not_false]
    rw [e]
    exact ih (k + 1) n _ (by omega) (by omega)
theorem may_sub (hO : OKr r) {S : Nat} (hS : S < 2 ^ r 5) : z_al (mayW r S) 0 (r 5) = sub6 S (usb r) := by
  have h5 := hO.w.1
  have hS6 : S < 64 := Nat.lt_of_lt_of_le hS (pw6 h5)
  rw [Bool.eq_iff_iff, z_al_iff, sub6_iff _ hS6 _ (usb_lt hO)]
  constructor
  · intro h v hv hb
    have hn : v < r 5 := by
      rcases Nat.lt_or_ge v (r 5) with q | q
      · exact q
      · rw [t_hi hS q] at hb; cases hb
    have := h v (by omega) (by omega)
    unfold mayW at this
    rw [hb] at this
    rw [usb_t, decide_eq_true hn, Bool.true_and]
    simpa using this
  · intro h i _ hi
    unfold mayW
    cases hb : S.testBit i
    · rfl
    · have := h i (by omega) hb
      rw [usb_t, decide_eq_true (show i < r 5 by omega), Bool.true_and] at this
      simpa using this
theorem pk33 (hO : KO r s) : ∀ j k n bb bl (m : Me), KM m r s → bb < 64 → bl ≤ 1000 → k + j = 2 ^ r 5 → 1 ≤ k → j < n → ∃ m', fX11_pack_33 n x1 (nI bb) (nI bl) (nI k) m = some (pkA x1 (pkF r k j (bb, bl)), m') ∧ Ak sN m m' := by
  have h5 := hO.1.w.1
  have hp := pw6 h5
  have hroom := r01 hO.1
  have hrow : ∀ S, 1 ≤ S → S < 2 ^ r 5 → rowC r S ≤ 1000 := fun S a b => rowC_le hO.1 b a
  have hms : ∀ S, S < 2 ^ r 5 → z_al (mayW r S) 0 (r 5) = sub6 S (usb r) := fun S a => may_sub hO.1 a
  have hro : ∀ S, 1 ≤ S → S < 2 ^ r 5 → ∀ m, KM m r s → ∃ m', fX11_rowOf (nI S) m = some (nI (rowC r S), m') ∧ Ak sN m m' := fun S a b m h => h.rowOf hO b a
  generalize hN : 2 ^ r 5 = N at hp hrow hms hro
  have esh : nI 1 <<< (nI (r 5) &&& nI 31) = nI N := by rw [zs_sh1 (by omega), hN]
  intro j
  induction j with
  | zero =>
    intro k n bb bl m h hb hl hk h1 hn
    obtain ⟨n, rfl⟩ : ∃ n', n = n' + 1 := ⟨n - 1, by omega⟩
    have e5 := h.2.1 5 (by omega)
    refine ⟨m, ?_, Ak.rf m⟩
    have eb := fX11_bits_e (show bb < 1024 by omega) m
    rw [fX11_pack_33, pkF]
    unfold fX11_pack_228 pkA
    by_cases q0 : x1 = nI 0
    · simp (disch := omega) only [e5, esh, q0, eb, cl2_so, cl1_so, ck_tr, zl_0, zl_1, zl_2, zl_3, zl_4, zl_5, zl_6, zl_7, zl_8, zl_9, zl_10, zl_11, zl_12, zl_15, zl_16, zl_20, zl_24, zl_25, zl_30, zl_31, zl_32, zl_33, zl_44, zl_48, zl_50, zl_57, zl_59, zl_60, zl_61, zl_62, zl_63, zl_64, zl_68, zl_97, zl_99, zl_100, zl_104, zl_108, zl_114, zl_120, zl_122, zl_126, zl_132, zl_180, zl_181, zl_186, zl_255, zl_900, zl_930, zl_1000, zl_1000000, nI_add, pk_mul, zs_sub, zs_lt, zs_le, zs_eq, zs_inb, zs_cl, zm_eq, zm_eq2, zm_lt, zm_le, mz_lt, mz_le, mm_eq, zs_bit, zs_or1, zs_div, zs_rem, ck_pos, if_pos, if_neg, true_or, or_true, true_and, and_true, false_or, or_false, false_and, and_false, not_true, not_false_iff, if_true, if_false, eq_self, Bool.false_eq_true, cl2_id, Bool.not_true, Bool.not_false]
    · by_cases q1 : x1 = nI 1
      · simp (disch := omega) only [e5, esh, q0, q1, eb, cl2_so, cl1_so, ck_tr, zl_0, zl_1, zl_2, zl_3, zl_4, zl_5, zl_6, zl_7, zl_8, zl_9, zl_10, zl_11, zl_12, zl_15, zl_16, zl_20, zl_24, zl_25, zl_30, zl_31, zl_32, zl_33, zl_44, zl_48, zl_50, zl_57, zl_59, zl_60, zl_61, zl_62, zl_63, zl_64, zl_68, zl_97, zl_99, zl_100, zl_104, zl_108, zl_114, zl_120, zl_122, zl_126, zl_132, zl_180, zl_181, zl_186, zl_255, zl_900, zl_930, zl_1000, zl_1000000, nI_add, pk_mul, zs_sub, zs_lt, zs_le, zs_eq, zs_inb, zs_cl, zm_eq, zm_eq2, zm_lt, zm_le, mz_lt, mz_le, mm_eq, zs_bit, zs_or1, zs_div, zs_rem, ck_pos, if_pos, if_neg, true_or, or_true, true_and, and_true, false_or, or_false, false_and, and_false, not_true, not_false_iff, if_true, if_false, eq_self, Bool.false_eq_true, cl2_id, Bool.not_true, Bool.not_false]
      · simp (disch := omega) only [e5, esh, q0, q1, eb, cl2_so, cl1_so, ck_tr, zl_0, zl_1, zl_2, zl_3, zl_4, zl_5, zl_6, zl_7, zl_8, zl_9, zl_10, zl_11, zl_12, zl_15, zl_16, zl_20, zl_24, zl_25, zl_30, zl_31, zl_32, zl_33, zl_44, zl_48, zl_50, zl_57, zl_59, zl_60, zl_61, zl_62, zl_63, zl_64, zl_68, zl_97, zl_99, zl_100, zl_104, zl_108, zl_114, zl_120, zl_122, zl_126, zl_132, zl_180, zl_181, zl_186, zl_255, zl_900, zl_930, zl_1000, zl_1000000, nI_add, pk_mul, zs_sub, zs_lt, zs_le, zs_eq, zs_inb, zs_cl, zm_eq, zm_eq2, zm_lt, zm_le, mz_lt, mz_le, mm_eq, zs_bit, zs_or1, zs_div, zs_rem, ck_pos, if_pos, if_neg, true_or, or_true, true_and, and_true, false_or, or_false, false_and, and_false, not_true, not_false_iff, if_true, if_false, eq_self, Bool.false_eq_true, cl2_id, Bool.not_true, Bool.not_false]
  | succ j ih =>
    intro k n bb bl m h hb hl hk h1 hn
    obtain ⟨n, rfl⟩ : ∃ n', n = n' + 1 := ⟨n - 1, by omega⟩
    have e5 := h.2.1 5 (by omega)
    have e52 := pk52 (x1 := x1) (x2 := nI bb) (x3 := nI bl) h hO (S := k) (by omega) (k33 := fX11_pack_33 n) (r 5) 0 FU true (by omega) (FU_pos (by omega))
    rw [Bool.true_and, hms k (by omega)] at e52
    simp only [if_true] at e52
    have hq := pst_le (room := r 0 * r 1) (L := rowC r k) (S := k) (b := (bb, bl)) (by omega) (hrow k h1 (by omega)) hb hl
    have eb1 : ∀ m, fX11_bits (nI k) m = some (nI (pcn k), m) := fun m => fX11_bits_e (show k < 1024 by omega) m
    have eb2 : ∀ m, fX11_bits (nI bb) m = some (nI (pcn bb), m) := fun m => fX11_bits_e (show bb < 1024 by omega) m
    have p1 := pcn_le k
    have p2 := pcn_le bb
    rw [fX11_pack_33, pkF]
    rw [fX11_pack_52] at e52
    unfold fX11_pack_201 fX11_pack_195 fX11_pack_201 at e52
    cases hu : sub6 k (usb r)
    · rw [hu] at e52
      obtain ⟨m2, f1, f2⟩ := ih (k + 1) n bb bl m h hb hl (by omega) (by omega) (by omega)
      refine ⟨m2, ?_, f2⟩
      simp (disch := omega) only [e5, cl2_so, cl1_so, ck_tr, zl_0, zl_1, zl_2, zl_3, zl_4, zl_5, zl_6, zl_7, zl_8, zl_9, zl_10, zl_11, zl_12, zl_15, zl_16, zl_20, zl_24, zl_25, zl_30, zl_31, zl_32, zl_33, zl_44, zl_48, zl_50, zl_57, zl_59, zl_60, zl_61, zl_62, zl_63, zl_64, zl_68, zl_97, zl_99, zl_100, zl_104, zl_108, zl_114, zl_120, zl_122, zl_126, zl_132, zl_180, zl_181, zl_186, zl_255, zl_900, zl_930, zl_1000, zl_1000000, nI_add, pk_mul, zs_sub, zs_lt, zs_le, zs_eq, zs_inb, zs_cl, zm_eq, zm_eq2, zm_lt, zm_le, mz_lt, mz_le, mm_eq, zs_bit, zs_or1, zs_div, zs_rem, ck_pos, if_pos, if_neg, true_or, or_true, true_and, and_true, false_or, or_false, false_and, and_false, not_true, not_false_iff, if_true, if_false, eq_self, Bool.false_eq_true, cl2_id, Bool.not_true, Bool.not_false] at e52
      simp (disch := omega) only [e5, esh, cl2_so, cl1_so, ck_tr, zl_0, zl_1, zl_2, zl_3, zl_4, zl_5, zl_6, zl_7, zl_8, zl_9, zl_10, zl_11, zl_12, zl_15, zl_16, zl_20, zl_24, zl_25, zl_30, zl_31, zl_32, zl_33, zl_44, zl_48, zl_50, zl_57, zl_59, zl_60, zl_61, zl_62, zl_63, zl_64, zl_68, zl_97, zl_99, zl_100, zl_104, zl_108, zl_114, zl_120, zl_122, zl_126, zl_132, zl_180, zl_181, zl_186, zl_255, zl_900, zl_930, zl_1000, zl_1000000, nI_add, pk_mul, zs_sub, zs_lt, zs_le, zs_eq, zs_inb, zs_cl, zm_eq, zm_eq2, zm_lt, zm_le, mz_lt, mz_le, mm_eq, zs_bit, zs_or1, zs_div, zs_rem, ck_pos, if_pos, if_neg, true_or, or_true, true_and, and_true, false_or, or_false, false_and, and_false, not_true, not_false_iff, if_true, if_false, eq_self, Bool.false_eq_true, cl2_id, Bool.not_true, Bool.not_false]
      exact e52.trans f1
    · rw [hu] at e52
      have hrk := hrow k h1 (by omega)
      obtain ⟨m1, g1, g2⟩ := hro k h1 (by omega) m h
      have hm1 := h.ag g2.agN
      have c0 := hm1.2.1 0 (by omega)
      have c1 := hm1.2.1 1 (by omega)
      have keep : ∀ m1, KM m1 r s → Ak sN m m1 → pst (r 0 * r 1) (rowC r k) k (bb, bl) = (bb, bl) → fX11_pack_52 FU (fX11_pack_33 n) x1 (nI bb) (nI bl) (nI k) (nI 1) (nI 0) m = fX11_pack_33 n x1 (nI bb) (nI bl) (nI (k + 1)) m1 → ∃ m', fX11_pack_52 FU (fX11_pack_33 n) x1 (nI bb) (nI bl) (nI k) (nI 1) (nI 0) m = some (pkA x1 (pkF r (k + 1) j (pst (r 0 * r 1) (rowC r k) k (bb, bl))), m') ∧ Ak sN m m' := by
        intro m1 hm a q1 q2
        obtain ⟨m2, f1, f2⟩ := ih (k + 1) n bb bl m1 hm hb hl (by omega) (by omega) (by omega)
        exact ⟨m2, by rw [q2, q1]; exact f1, a.tr f2⟩
      have take : pst (r 0 * r 1) (rowC r k) k (bb, bl) = (k, rowC r k) → fX11_pack_52 FU (fX11_pack_33 n) x1 (nI bb) (nI bl) (nI k) (nI 1) (nI 0) m = fX11_pack_33 n x1 (nI k) (nI (rowC r k)) (nI (k + 1)) m1 → ∃ m', fX11_pack_52 FU (fX11_pack_33 n) x1 (nI bb) (nI bl) (nI k) (nI 1) (nI 0) m = some (pkA x1 (pkF r (k + 1) j (pst (r 0 * r 1) (rowC r k) k (bb, bl))), m') ∧ Ak sN m m' := by
        intro q1 q2
        obtain ⟨m2, f1, f2⟩ := ih (k + 1) n k (rowC r k) m1 hm1 (by omega) hrk (by omega) (by omega) (by omega)
        exact ⟨m2, by rw [q2, q1]; exact f1, g2.tr f2⟩
      have main : ∃ m', fX11_pack_52 FU (fX11_pack_33 n) x1 (nI bb) (nI bl) (nI k) (nI 1) (nI 0) m = some (pkA x1 (pkF r (k + 1) j (pst (r 0 * r 1) (rowC r k) k (bb, bl))), m') ∧ Ak sN m m' := by
        by_cases h2 : pcn k < pcn bb
        · have h3 : ¬ pcn k = pcn bb := by omega
          have h4 : ¬ pcn bb < pcn k := by omega
          refine keep m h (Ak.rf m) (by unfold pst; rw [if_neg h4, if_neg h3, ite_self]) ?_
          rw [e52]
          simp (disch := omega) only [e5, eb1, eb2, cl2_so, cl1_so, ck_tr, zl_0, zl_1, zl_2, zl_3, zl_4, zl_5, zl_6, zl_7, zl_8, zl_9, zl_10, zl_11, zl_12, zl_15, zl_16, zl_20, zl_24, zl_25, zl_30, zl_31, zl_32, zl_33, zl_44, zl_48, zl_50, zl_57, zl_59, zl_60, zl_61, zl_62, zl_63, zl_64, zl_68, zl_97, zl_99, zl_100, zl_104, zl_108, zl_114, zl_120, zl_122, zl_126, zl_132, zl_180, zl_181, zl_186, zl_255, zl_900, zl_930, zl_1000, zl_1000000, nI_add, pk_mul, zs_sub, zs_lt, zs_le, zs_eq, zs_inb, zs_cl, zm_eq, zm_eq2, zm_lt, zm_le, mz_lt, mz_le, mm_eq, zs_bit, zs_or1, zs_div, zs_rem, ck_pos, if_pos, if_neg, true_or, or_true, true_and, and_true, false_or, or_false, false_and, and_false, not_true, not_false_iff, if_true, if_false, eq_self, Bool.false_eq_true, cl2_id, Bool.not_true, Bool.not_false]
        · by_cases h3 : r 0 * r 1 < rowC r k
          · refine keep m1 hm1 g2 (by unfold pst; rw [if_pos h3]) ?_
            rw [e52]
            simp (disch := omega) only [e5, eb1, eb2, g1, c0, c1, cl2_so, cl1_so, ck_tr, zl_0, zl_1, zl_2, zl_3, zl_4, zl_5, zl_6, zl_7, zl_8, zl_9, zl_10, zl_11, zl_12, zl_15, zl_16, zl_20, zl_24, zl_25, zl_30, zl_31, zl_32, zl_33, zl_44, zl_48, zl_50, zl_57, zl_59, zl_60, zl_61, zl_62, zl_63, zl_64, zl_68, zl_97, zl_99, zl_100, zl_104, zl_108, zl_114, zl_120, zl_122, zl_126, zl_132, zl_180, zl_181, zl_186, zl_255, zl_900, zl_930, zl_1000, zl_1000000, nI_add, pk_mul, zs_sub, zs_lt, zs_le, zs_eq, zs_inb, zs_cl, zm_eq, zm_eq2, zm_lt, zm_le, mz_lt, mz_le, mm_eq, zs_bit, zs_or1, zs_div, zs_rem, ck_pos, if_pos, if_neg, true_or, or_true, true_and, and_true, false_or, or_false, false_and, and_false, not_true, not_false_iff, if_true, if_false, eq_self, Bool.false_eq_true, cl2_id, Bool.not_true, Bool.not_false]
          · by_cases h4 : pcn k = pcn bb
            · have h4' : ¬ pcn bb < pcn k := by omega
              by_cases h6 : rowC r k < bl
              · refine take (by unfold pst; rw [if_neg h3, if_neg h4', if_pos h4, if_pos h6]) ?_
                rw [e52]
                simp (disch := omega) only [e5, eb1, eb2, g1, c0, c1, h4, cl2_so, cl1_so, ck_tr, zl_0, zl_1, zl_2, zl_3, zl_4, zl_5, zl_6, zl_7, zl_8, zl_9, zl_10, zl_11, zl_12, zl_15, zl_16, zl_20, zl_24, zl_25, zl_30, zl_31, zl_32, zl_33, zl_44, zl_48, zl_50, zl_57, zl_59, zl_60, zl_61, zl_62, zl_63, zl_64, zl_68, zl_97, zl_99, zl_100, zl_104, zl_108, zl_114, zl_120, zl_122, zl_126, zl_132, zl_180, zl_181, zl_186, zl_255, zl_900, zl_930, zl_1000, zl_1000000, nI_add, pk_mul, zs_sub, zs_lt, zs_le, zs_eq, zs_inb, zs_cl, zm_eq, zm_eq2, zm_lt, zm_le, mz_lt, mz_le, mm_eq, zs_bit, zs_or1, zs_div, zs_rem, ck_pos, if_pos, if_neg, true_or, or_true, true_and, and_true, false_or, or_false, false_and, and_false, not_true, not_false_iff, if_true, if_false, eq_self, Bool.false_eq_true, cl2_id, Bool.not_true, Bool.not_false]
              · refine keep m1 hm1 g2 (by unfold pst; rw [if_neg h3, if_neg h4', if_pos h4, if_neg h6]) ?_
                rw [e52]
                simp (disch := omega) only [e5, eb1, eb2, g1, c0, c1, h4, cl2_so, cl1_so, ck_tr, zl_0, zl_1, zl_2, zl_3, zl_4, zl_5, zl_6, zl_7, zl_8, zl_9, zl_10, zl_11, zl_12, zl_15, zl_16, zl_20, zl_24, zl_25, zl_30, zl_31, zl_32, zl_33, zl_44, zl_48, zl_50, zl_57, zl_59, zl_60, zl_61, zl_62, zl_63, zl_64, zl_68, zl_97, zl_99, zl_100, zl_104, zl_108, zl_114, zl_120, zl_122, zl_126, zl_132, zl_180, zl_181, zl_186, zl_255, zl_900, zl_930, zl_1000, zl_1000000, nI_add, pk_mul, zs_sub, zs_lt, zs_le, zs_eq, zs_inb, zs_cl, zm_eq, zm_eq2, zm_lt, zm_le, mz_lt, mz_le, mm_eq, zs_bit, zs_or1, zs_div, zs_rem, ck_pos, if_pos, if_neg, true_or, or_true, true_and, and_true, false_or, or_false, false_and, and_false, not_true, not_false_iff, if_true, if_false, eq_self, Bool.false_eq_true, cl2_id, Bool.not_true, Bool.not_false]
            · have h4' : pcn bb < pcn k := by omega
              refine take (by unfold pst; rw [if_neg h3, if_pos h4']) ?_
              rw [e52]
              simp (disch := omega) only [e5, eb1, eb2, g1, c0, c1, h4, cl2_so, cl1_so, ck_tr, zl_0, zl_1, zl_2, zl_3, zl_4, zl_5, zl_6, zl_7, zl_8, zl_9, zl_10, zl_11, zl_12, zl_15, zl_16, zl_20, zl_24, zl_25, zl_30, zl_31, zl_32, zl_33, zl_44, zl_48, zl_50, zl_57, zl_59, zl_60, zl_61, zl_62, zl_63, zl_64, zl_68, zl_97, zl_99, zl_100, zl_104, zl_108, zl_114, zl_120, zl_122, zl_126, zl_132, zl_180, zl_181, zl_186, zl_255, zl_900, zl_930, zl_1000, zl_1000000, nI_add, pk_mul, zs_sub, zs_lt, zs_le, zs_eq, zs_inb, zs_cl, zm_eq, zm_eq2, zm_lt, zm_le, mz_lt, mz_le, mm_eq, zs_bit, zs_or1, zs_div, zs_rem, ck_pos, if_pos, if_neg, true_or, or_true, true_and, and_true, false_or, or_false, false_and, and_false, not_true, not_false_iff, if_true, if_false, eq_self, Bool.false_eq_true, cl2_id, Bool.not_true, Bool.not_false]
      obtain ⟨m2, f1, f2⟩ := main
      refine ⟨m2, ?_, f2⟩
      simp (disch := omega) only [e5, esh, cl2_so, cl1_so, ck_tr, zl_0, zl_1, zl_2, zl_3, zl_4, zl_5, zl_6, zl_7, zl_8, zl_9, zl_10, zl_11, zl_12, zl_15, zl_16, zl_20, zl_24, zl_25, zl_30, zl_31, zl_32, zl_33, zl_44, zl_48, zl_50, zl_57, zl_59, zl_60, zl_61, zl_62, zl_63, zl_64, zl_68, zl_97, zl_99, zl_100, zl_104, zl_108, zl_114, zl_120, zl_122, zl_126, zl_132, zl_180, zl_181, zl_186, zl_255, zl_900, zl_930, zl_1000, zl_1000000, nI_add, pk_mul, zs_sub, zs_lt, zs_le, zs_eq, zs_inb, zs_cl, zm_eq, zm_eq2, zm_lt, zm_le, mz_lt, mz_le, mm_eq, zs_bit, zs_or1, zs_div, zs_rem, ck_pos, if_pos, if_neg, true_or, or_true, true_and, and_true, false_or, or_false, false_and, and_false, not_true, not_false_iff, if_true, if_false, eq_self, Bool.false_eq_true, cl2_id, Bool.not_true, Bool.not_false]
      exact f1
theorem b_pack (hI : Inv m) (hC : JC m H r s) (hM : JM m H r s) (hO : JO H r s) : Both (fX10_pack x1) (fX11_pack x1) m := by
  cases hv : vN H 3 x1
  · refine ⟨-nI 1, 1, ?_, fun m1 h1 => ?_⟩
    · have hno : fX10_pack x1 m = fX10_pack_16 m := by
        unfold fX10_pack
        rw [hC.1]
        cases H
        · rw [if_pos (show nI (HB false) = 0 by decide)]
        · rw [if_neg (show ¬ nI (HB true) = 0 by decide)]
          by_cases h0 : x1 < 0
          · rw [if_pos h0]
          · rw [if_neg h0, if_neg]
            intro q
            obtain ⟨k, hk, rfl⟩ := nI_of h0
            unfold vN at hv
            rw [Bool.true_and, decide_eq_false_iff_not] at hv
            apply hv
            refine ⟨Int32.not_lt.mp h0, ?_⟩
            rw [zl_2, zs_le (by omega) (by omega)] at q
            rw [zs_lt (by omega) (by omega)]
            omega
      rw [hno]
      unfold fX10_pack_16
      simp (disch := omega) only [cl2_so, cl1_so, ck_tr, zl_0, zl_1, zl_2, zl_3, zl_4, zl_5, zl_6, zl_7, zl_8, zl_9, zl_10, zl_11, zl_12, zl_15, zl_16, zl_20, zl_24, zl_25, zl_30, zl_31, zl_32, zl_33, zl_44, zl_48, zl_50, zl_57, zl_59, zl_60, zl_61, zl_62, zl_63, zl_64, zl_68, zl_97, zl_99, zl_100, zl_104, zl_108, zl_114, zl_120, zl_122, zl_126, zl_132, zl_180, zl_181, zl_186, zl_255, zl_900, zl_930, zl_1000, zl_1000000, nI_add, pk_mul, zs_sub, zs_lt, zs_le, zs_eq, zs_inb, zs_cl, zm_eq, zm_eq2, zm_lt, zm_le, mz_lt, mz_le, mm_eq, zs_bit, zs_or1, zs_div, zs_rem, ck_pos, if_pos, if_neg, true_or, or_true, true_and, and_true, false_or, or_false, false_and, and_false, not_true, not_false_iff, if_true, if_false, eq_self, Bool.false_eq_true, cl2_id, Bool.not_true, Bool.not_false]
      exact ansC_no 1 (Ak.rf m)
    · have hM1 := hM.ag (h1.agC.tr (gd_ak m1).agM)
      unfold fX11_pack fX11_pack_20
      cases H
      · have e := hM1.1
        simp only [HB] at e
        simp (disch := omega) only [gd_e, e, cl2_so, cl1_so, ck_tr, zl_0, zl_1, zl_2, zl_3, zl_4, zl_5, zl_6, zl_7, zl_8, zl_9, zl_10, zl_11, zl_12, zl_15, zl_16, zl_20, zl_24, zl_25, zl_30, zl_31, zl_32, zl_33, zl_44, zl_48, zl_50, zl_57, zl_59, zl_60, zl_61, zl_62, zl_63, zl_64, zl_68, zl_97, zl_99, zl_100, zl_104, zl_108, zl_114, zl_120, zl_122, zl_126, zl_132, zl_180, zl_181, zl_186, zl_255, zl_900, zl_930, zl_1000, zl_1000000, nI_add, pk_mul, zs_sub, zs_lt, zs_le, zs_eq, zs_inb, zs_cl, zm_eq, zm_eq2, zm_lt, zm_le, mz_lt, mz_le, mm_eq, zs_bit, zs_or1, zs_div, zs_rem, ck_pos, if_pos, if_neg, true_or, or_true, true_and, and_true, false_or, or_false, false_and, and_false, not_true, not_false_iff, if_true, if_false, eq_self, Bool.false_eq_true, cl2_id, Bool.not_true, Bool.not_false]
        exact ansM_no 1 (gd_ak m1)
      · have e := hM1.1
        simp only [HB, if_true] at e
        have ew : fX11_within x1 (nI 0) (nI 2) (gdM m1) = some (nI 0, gdM m1) := by
          have := within_n (m := gdM m1) (n := 3) (x := x1) (by decide)
          rw [hv, zs_sub (by decide)] at this
          exact this
        simp (disch := omega) only [gd_e, e, ew, cl2_so, cl1_so, ck_tr, zl_0, zl_1, zl_2, zl_3, zl_4, zl_5, zl_6, zl_7, zl_8, zl_9, zl_10, zl_11, zl_12, zl_15, zl_16, zl_20, zl_24, zl_25, zl_30, zl_31, zl_32, zl_33, zl_44, zl_48, zl_50, zl_57, zl_59, zl_60, zl_61, zl_62, zl_63, zl_64, zl_68, zl_97, zl_99, zl_100, zl_104, zl_108, zl_114, zl_120, zl_122, zl_126, zl_132, zl_180, zl_181, zl_186, zl_255, zl_900, zl_930, zl_1000, zl_1000000, nI_add, pk_mul, zs_sub, zs_lt, zs_le, zs_eq, zs_inb, zs_cl, zm_eq, zm_eq2, zm_lt, zm_le, mz_lt, mz_le, mm_eq, zs_bit, zs_or1, zs_div, zs_rem, ck_pos, if_pos, if_neg, true_or, or_true, true_and, and_true, false_or, or_false, false_and, and_false, not_true, not_false_iff, if_true, if_false, eq_self, Bool.false_eq_true, cl2_id, Bool.not_true, Bool.not_false]
        exact ansM_no 1 (gd_ak m1)
  · have hH := vN_H hv
    subst hH
    have hK : KO r s := hO rfl
    obtain ⟨k, hk, rfl⟩ := vN_in (by decide) hv
    have hp := pw6 hK.1.w.1
    have h1' : 1 ≤ 2 ^ r 5 := Nat.one_le_two_pow
    have hle := pkR_le hK.1
    refine ⟨pkA (nI k) (pkR r), 0, ?_, fun m1 h1 => ?_⟩
    · obtain ⟨m2, e2, a2, b3, b4⟩ := (hC.kc hI).pack hK
      have e := hC.1
      simp only [HB, if_true] at e
      have eb := bc_e (show (pkR r).1 < 1024 by omega) m2
      unfold fX10_pack fX10_pack_75 pkA
      have hkk : k = 0 ∨ k = 1 ∨ k = 2 := by omega
      rcases hkk with rfl | rfl | rfl
      · simp (disch := omega) only [e, e2, b3, eb, cl2_so, cl1_so, ck_tr, zl_0, zl_1, zl_2, zl_3, zl_4, zl_5, zl_6, zl_7, zl_8, zl_9, zl_10, zl_11, zl_12, zl_15, zl_16, zl_20, zl_24, zl_25, zl_30, zl_31, zl_32, zl_33, zl_44, zl_48, zl_50, zl_57, zl_59, zl_60, zl_61, zl_62, zl_63, zl_64, zl_68, zl_97, zl_99, zl_100, zl_104, zl_108, zl_114, zl_120, zl_122, zl_126, zl_132, zl_180, zl_181, zl_186, zl_255, zl_900, zl_930, zl_1000, zl_1000000, nI_add, pk_mul, zs_sub, zs_lt, zs_le, zs_eq, zs_inb, zs_cl, zm_eq, zm_eq2, zm_lt, zm_le, mz_lt, mz_le, mm_eq, zs_bit, zs_or1, zs_div, zs_rem, ck_pos, if_pos, if_neg, true_or, or_true, true_and, and_true, false_or, or_false, false_and, and_false, not_true, not_false_iff, if_true, if_false, eq_self, Bool.false_eq_true, cl2_id, Bool.not_true, Bool.not_false]
        exact ansC_ok _ a2
      · simp (disch := omega) only [e, e2, b3, eb, cl2_so, cl1_so, ck_tr, zl_0, zl_1, zl_2, zl_3, zl_4, zl_5, zl_6, zl_7, zl_8, zl_9, zl_10, zl_11, zl_12, zl_15, zl_16, zl_20, zl_24, zl_25, zl_30, zl_31, zl_32, zl_33, zl_44, zl_48, zl_50, zl_57, zl_59, zl_60, zl_61, zl_62, zl_63, zl_64, zl_68, zl_97, zl_99, zl_100, zl_104, zl_108, zl_114, zl_120, zl_122, zl_126, zl_132, zl_180, zl_181, zl_186, zl_255, zl_900, zl_930, zl_1000, zl_1000000, nI_add, pk_mul, zs_sub, zs_lt, zs_le, zs_eq, zs_inb, zs_cl, zm_eq, zm_eq2, zm_lt, zm_le, mz_lt, mz_le, mm_eq, zs_bit, zs_or1, zs_div, zs_rem, ck_pos, if_pos, if_neg, true_or, or_true, true_and, and_true, false_or, or_false, false_and, and_false, not_true, not_false_iff, if_true, if_false, eq_self, Bool.false_eq_true, cl2_id, Bool.not_true, Bool.not_false]
        exact ansC_ok _ a2
      · simp (disch := omega) only [e, e2, b4, eb, cl2_so, cl1_so, ck_tr, zl_0, zl_1, zl_2, zl_3, zl_4, zl_5, zl_6, zl_7, zl_8, zl_9, zl_10, zl_11, zl_12, zl_15, zl_16, zl_20, zl_24, zl_25, zl_30, zl_31, zl_32, zl_33, zl_44, zl_48, zl_50, zl_57, zl_59, zl_60, zl_61, zl_62, zl_63, zl_64, zl_68, zl_97, zl_99, zl_100, zl_104, zl_108, zl_114, zl_120, zl_122, zl_126, zl_132, zl_180, zl_181, zl_186, zl_255, zl_900, zl_930, zl_1000, zl_1000000, nI_add, pk_mul, zs_sub, zs_lt, zs_le, zs_eq, zs_inb, zs_cl, zm_eq, zm_eq2, zm_lt, zm_le, mz_lt, mz_le, mm_eq, zs_bit, zs_or1, zs_div, zs_rem, ck_pos, if_pos, if_neg, true_or, or_true, true_and, and_true, false_or, or_false, false_and, and_false, not_true, not_false_iff, if_true, if_false, eq_self, Bool.false_eq_true, cl2_id, Bool.not_true, Bool.not_false]
        exact ansC_ok _ a2
    · have hM1 := hM.ag (h1.agC.tr (gd_ak m1).agM)
      have e := hM1.1
      simp only [HB, if_true] at e
      have ew : fX11_within (nI k) (nI 0) (nI 2) (gdM m1) = some (nI 1, gdM m1) := by
        have := within_n (m := gdM m1) (n := 3) (x := nI k) (by decide)
        rw [hv, zs_sub (by decide)] at this
        exact this
      obtain ⟨m2, f1, f2⟩ := pk33 (x1 := nI k) hK (2 ^ r 5 - 1) 1 FU 0 0 _ hM1.km (by decide) (by decide) (by omega) (by decide) (FU_pos (by omega))
      unfold fX11_pack
      simp (disch := omega) only [gd_e, e, ew, cl2_so, cl1_so, ck_tr, zl_0, zl_1, zl_2, zl_3, zl_4, zl_5, zl_6, zl_7, zl_8, zl_9, zl_10, zl_11, zl_12, zl_15, zl_16, zl_20, zl_24, zl_25, zl_30, zl_31, zl_32, zl_33, zl_44, zl_48, zl_50, zl_57, zl_59, zl_60, zl_61, zl_62, zl_63, zl_64, zl_68, zl_97, zl_99, zl_100, zl_104, zl_108, zl_114, zl_120, zl_122, zl_126, zl_132, zl_180, zl_181, zl_186, zl_255, zl_900, zl_930, zl_1000, zl_1000000, nI_add, pk_mul, zs_sub, zs_lt, zs_le, zs_eq, zs_inb, zs_cl, zm_eq, zm_eq2, zm_lt, zm_le, mz_lt, mz_le, mm_eq, zs_bit, zs_or1, zs_div, zs_rem, ck_pos, if_pos, if_neg, true_or, or_true, true_and, and_true, false_or, or_false, false_and, and_false, not_true, not_false_iff, if_true, if_false, eq_self, Bool.false_eq_true, cl2_id, Bool.not_true, Bool.not_false]
      have f1' : fX11_pack_33 FU (nI k) (nI 0) (nI 0) (nI 1) (gdM m1) = some (pkA (nI k) (pkR r), m2) := f1
      rw [f1']
      exact ansN_ok _ f2
end PK5
