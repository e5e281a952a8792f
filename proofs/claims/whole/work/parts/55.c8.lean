/-! mend, mendAt -/
def z_co (w LT : List Nat) (p : Nat) : Nat := z_ct (fun i => !z_g w LT p i) 0 w.length
def z_be (w LT : List Nat) : Nat → Nat → Option (Nat × Nat) → Option (Nat × Nat)
  | _, 0, b => b
  | k, j + 1, none => z_be w LT (k + 1) j (some (z_co w LT k, k))
  | k, j + 1, some b => z_be w LT (k + 1) j (if z_co w LT k < b.1 then some (z_co w LT k, k) else some b)
/-- the cost, the place; as the class and as the reference hold them -/
def bP : Option (Nat × Nat) → Int32
  | none => -nI 2
  | some b => nI b.2
def bC9 : Option (Nat × Nat) → Int32
  | none => nI 9
  | some b => nI b.1
def bC2 : Option (Nat × Nat) → Int32
  | none => -nI 2
  | some b => nI b.1
theorem z_co_le (w LT : List Nat) (p : Nat) : z_co w LT p ≤ w.length := z_ct_le _ _ _
/-- what is held is the cost at that place -/
def bOK (w LT : List Nat) (N : Nat) : Option (Nat × Nat) → Prop
  | none => True
  | some b => b.1 = z_co w LT b.2 ∧ b.2 < N
theorem z_be_ok {w LT : List Nat} {N : Nat} : ∀ j k b, bOK w LT N b → k + j ≤ N → bOK w LT N (z_be w LT k j b)
  | 0, k, b, h, _ => h
  | j + 1, k, none, _, hk => by
    rw [z_be]
    exact z_be_ok j (k + 1) _ ⟨rfl, by show k < N; omega⟩ (by omega)
  | j + 1, k, some b, h, hk => by
    rw [z_be]
    split
    · exact z_be_ok j (k + 1) _ ⟨rfl, by show k < N; omega⟩ (by omega)
    · exact z_be_ok j (k + 1) _ h (by omega)
section C10
variable {m : Me} {H : Bool} {t : Nat} {r s : Nat → Nat} {x1 x2 x3 x4 : Int32}
theorem ch19 {a0 a1 : Nat} {w LT : List Nat} (h0 : RLt m a0 LT) (h1 : SY m a1 w) (hw : LtW w) (hw1 : 1 ≤ w.length) (hL : LT.length ≤ 30) (hl2 : ∀ k, k < LT.length → LT.getD k 0 < 1000) : ∀ j k n b, k + j = LT.length + 1 - w.length → j < n → bOK w LT k b → fX7_cheapestPlace_19 n a0 a1 (bP b) (bC9 b) (nI k) m = some (bP (z_be w LT k j b), m) := by
  have hw8 := hw.1
  intro j
  induction j with
  | zero =>
    intro k n b hk hn hb
    obtain ⟨n, rfl⟩ : ∃ n', n = n' + 1 := ⟨n - 1, by omega⟩
    rw [fX7_cheapestPlace_19, z_be]
    simp (disch := omega) only [h0.1, h1.1, cl2_so, cl1_so, ck_tr, zl_0, zl_1, zl_2, zl_3, zl_4, zl_5, zl_6, zl_7, zl_8, zl_9, zl_10, zl_11, zl_12, zl_15, zl_16, zl_20, zl_24, zl_25, zl_30, zl_31, zl_32, zl_33, zl_44, zl_48, zl_50, zl_57, zl_59, zl_60, zl_61, zl_62, zl_63, zl_64, zl_68, zl_97, zl_99, zl_100, zl_104, zl_108, zl_114, zl_120, zl_122, zl_126, zl_132, zl_180, zl_181, zl_186, zl_255, zl_900, zl_930, zl_1000, zl_1000000, nI_add, pk_mul, zs_sub, zs_lt, zs_le, zs_eq, zs_inb, zs_cl, zm_eq, zm_eq2, zm_lt, zm_le, mz_lt, mz_le, mm_eq, zs_bit, zs_or1, zs_div, zs_rem, ck_pos, if_pos, if_neg, true_or, or_true, true_and, and_true, false_or, or_false, false_and, and_false, not_true, not_false_iff, if_true, if_false, eq_self, Bool.false_eq_true, cl2_id, Bool.not_true, Bool.not_false]
  | succ j ih =>
    intro k n b hk hn hb
    obtain ⟨n, rfl⟩ : ∃ n', n = n' + 1 := ⟨n - 1, by omega⟩
    have e := fX7_strangeAt_e h0 h1 hw8 hL hw.2 hl2 (p := k) (by omega)
    rw [if_pos (by omega)] at e
    have hc := z_co_le w LT k
    unfold z_co at hc
    rw [fX7_cheapestPlace_19]
    unfold fX7_cheapestPlace_54
    cases b with
    | none =>
      rw [z_be]
      have ih' := ih (k + 1) n (some (z_co w LT k, k)) (by omega) (by omega) ⟨rfl, by show k < k + 1; omega⟩
      simp only [bC9, bP] at ih' ⊢
      simp (disch := omega) only [h0.1, h1.1, e, cl2_so, cl1_so, ck_tr, zl_0, zl_1, zl_2, zl_3, zl_4, zl_5, zl_6, zl_7, zl_8, zl_9, zl_10, zl_11, zl_12, zl_15, zl_16, zl_20, zl_24, zl_25, zl_30, zl_31, zl_32, zl_33, zl_44, zl_48, zl_50, zl_57, zl_59, zl_60, zl_61, zl_62, zl_63, zl_64, zl_68, zl_97, zl_99, zl_100, zl_104, zl_108, zl_114, zl_120, zl_122, zl_126, zl_132, zl_180, zl_181, zl_186, zl_255, zl_900, zl_930, zl_1000, zl_1000000, nI_add, pk_mul, zs_sub, zs_lt, zs_le, zs_eq, zs_inb, zs_cl, zm_eq, zm_eq2, zm_lt, zm_le, mz_lt, mz_le, mm_eq, zs_bit, zs_or1, zs_div, zs_rem, ck_pos, if_pos, if_neg, true_or, or_true, true_and, and_true, false_or, or_false, false_and, and_false, not_true, not_false_iff, if_true, if_false, eq_self, Bool.false_eq_true, cl2_id, Bool.not_true, Bool.not_false]
      exact ih'
    | some b =>
      rw [z_be]
      have hb1 : b.1 ≤ 8 := by have := z_co_le w LT b.2; rw [hb.1]; omega
      have hbk : b.2 < k := hb.2
      by_cases hq : z_co w LT k < b.1
      · have ih' := ih (k + 1) n (some (z_co w LT k, k)) (by omega) (by omega) ⟨rfl, by show k < k + 1; omega⟩
        rw [if_pos hq]
        unfold z_co at hq
        simp only [bC9, bP] at ih' ⊢
        simp (disch := omega) only [h0.1, h1.1, e, cl2_so, cl1_so, ck_tr, zl_0, zl_1, zl_2, zl_3, zl_4, zl_5, zl_6, zl_7, zl_8, zl_9, zl_10, zl_11, zl_12, zl_15, zl_16, zl_20, zl_24, zl_25, zl_30, zl_31, zl_32, zl_33, zl_44, zl_48, zl_50, zl_57, zl_59, zl_60, zl_61, zl_62, zl_63, zl_64, zl_68, zl_97, zl_99, zl_100, zl_104, zl_108, zl_114, zl_120, zl_122, zl_126, zl_132, zl_180, zl_181, zl_186, zl_255, zl_900, zl_930, zl_1000, zl_1000000, nI_add, pk_mul, zs_sub, zs_lt, zs_le, zs_eq, zs_inb, zs_cl, zm_eq, zm_eq2, zm_lt, zm_le, mz_lt, mz_le, mm_eq, zs_bit, zs_or1, zs_div, zs_rem, ck_pos, if_pos, if_neg, true_or, or_true, true_and, and_true, false_or, or_false, false_and, and_false, not_true, not_false_iff, if_true, if_false, eq_self, Bool.false_eq_true, cl2_id, Bool.not_true, Bool.not_false]
        exact ih'
      · have ih' := ih (k + 1) n (some b) (by omega) (by omega) ⟨hb.1, by have := hb.2; show b.2 < k + 1; omega⟩
        rw [if_neg hq]
        unfold z_co at hq
        simp only [bC9, bP] at ih' ⊢
        simp (disch := omega) only [h0.1, h1.1, e, cl2_so, cl1_so, ck_tr, zl_0, zl_1, zl_2, zl_3, zl_4, zl_5, zl_6, zl_7, zl_8, zl_9, zl_10, zl_11, zl_12, zl_15, zl_16, zl_20, zl_24, zl_25, zl_30, zl_31, zl_32, zl_33, zl_44, zl_48, zl_50, zl_57, zl_59, zl_60, zl_61, zl_62, zl_63, zl_64, zl_68, zl_97, zl_99, zl_100, zl_104, zl_108, zl_114, zl_120, zl_122, zl_126, zl_132, zl_180, zl_181, zl_186, zl_255, zl_900, zl_930, zl_1000, zl_1000000, nI_add, pk_mul, zs_sub, zs_lt, zs_le, zs_eq, zs_inb, zs_cl, zm_eq, zm_eq2, zm_lt, zm_le, mz_lt, mz_le, mm_eq, zs_bit, zs_or1, zs_div, zs_rem, ck_pos, if_pos, if_neg, true_or, or_true, true_and, and_true, false_or, or_false, false_and, and_false, not_true, not_false_iff, if_true, if_false, eq_self, Bool.false_eq_true, cl2_id, Bool.not_true, Bool.not_false]
        exact ih'
theorem fX7_cheapestPlace_e {a0 a1 : Nat} {w LT : List Nat} (h0 : RLt m a0 LT) (h1 : SY m a1 w) (hw : LtW w) (hw1 : 1 ≤ w.length) (hL : LT.length ≤ 30) (hl2 : ∀ k, k < LT.length → LT.getD k 0 < 1000) : fX7_cheapestPlace a0 a1 m = some (bP (if z_bare w then none else z_be w LT 0 (LT.length + 1 - w.length) none), m) := by
  unfold fX7_cheapestPlace
  have e := fX8_hasBare_e h1 hw.1 hw.2
  cases hb : z_bare w
  · have e2 := ch19 h0 h1 hw hw1 hL hl2 (LT.length + 1 - w.length) 0 FU none (by omega) (FU_pos (by omega)) trivial
    simp only [bP, bC9] at e2
    simp (disch := omega) only [e, hb, cl2_so, cl1_so, ck_tr, zl_0, zl_1, zl_2, zl_3, zl_4, zl_5, zl_6, zl_7, zl_8, zl_9, zl_10, zl_11, zl_12, zl_15, zl_16, zl_20, zl_24, zl_25, zl_30, zl_31, zl_32, zl_33, zl_44, zl_48, zl_50, zl_57, zl_59, zl_60, zl_61, zl_62, zl_63, zl_64, zl_68, zl_97, zl_99, zl_100, zl_104, zl_108, zl_114, zl_120, zl_122, zl_126, zl_132, zl_180, zl_181, zl_186, zl_255, zl_900, zl_930, zl_1000, zl_1000000, nI_add, pk_mul, zs_sub, zs_lt, zs_le, zs_eq, zs_inb, zs_cl, zm_eq, zm_eq2, zm_lt, zm_le, mz_lt, mz_le, mm_eq, zs_bit, zs_or1, zs_div, zs_rem, ck_pos, if_pos, if_neg, true_or, or_true, true_and, and_true, false_or, or_false, false_and, and_false, not_true, not_false_iff, if_true, if_false, eq_self, Bool.false_eq_true, cl2_id, Bool.not_true, Bool.not_false]
    exact e2
  · simp (disch := omega) only [e, hb, bP, cl2_so, cl1_so, ck_tr, zl_0, zl_1, zl_2, zl_3, zl_4, zl_5, zl_6, zl_7, zl_8, zl_9, zl_10, zl_11, zl_12, zl_15, zl_16, zl_20, zl_24, zl_25, zl_30, zl_31, zl_32, zl_33, zl_44, zl_48, zl_50, zl_57, zl_59, zl_60, zl_61, zl_62, zl_63, zl_64, zl_68, zl_97, zl_99, zl_100, zl_104, zl_108, zl_114, zl_120, zl_122, zl_126, zl_132, zl_180, zl_181, zl_186, zl_255, zl_900, zl_930, zl_1000, zl_1000000, nI_add, pk_mul, zs_sub, zs_lt, zs_le, zs_eq, zs_inb, zs_cl, zm_eq, zm_eq2, zm_lt, zm_le, mz_lt, mz_le, mm_eq, zs_bit, zs_or1, zs_div, zs_rem, ck_pos, if_pos, if_neg, true_or, or_true, true_and, and_true, false_or, or_false, false_and, and_false, not_true, not_false_iff, if_true, if_false, eq_self, Bool.false_eq_true, cl2_id, Bool.not_true, Bool.not_false]
theorem iwh4 (h : KM m r s) (hO : KO r s) {i : Nat} (hi : i < r 6) : ∀ j k n (b : Bool), k + j = r (64 + i) → j < n → fX11_isWhole_4 n (nI i) (nI (if b then 1 else 0)) (nI k) m = some (nI (if b && z_al (fun k => decide ((z_wish r i).getD k 0 ≠ 25)) k j then 1 else 0), m) := by
  have h6 := hO.1.2.2.2.2.1
  obtain ⟨-, o8, o1, o2, o3⟩ := hO.1.2.2.2.2.2.2.2.2.1 i hi
  have e1 := h.2.1 (64 + i) (by omega)
  intro j
  induction j with
  | zero =>
    intro k n b hk hn
    obtain ⟨n, rfl⟩ : ∃ n', n = n' + 1 := ⟨n - 1, by omega⟩
    rw [fX11_isWhole_4, z_al]
    cases b <;> simp (disch := omega) only [e1, Bool.and_true, cl2_so, cl1_so, ck_tr, zl_0, zl_1, zl_2, zl_3, zl_4, zl_5, zl_6, zl_7, zl_8, zl_9, zl_10, zl_11, zl_12, zl_15, zl_16, zl_20, zl_24, zl_25, zl_30, zl_31, zl_32, zl_33, zl_44, zl_48, zl_50, zl_57, zl_59, zl_60, zl_61, zl_62, zl_63, zl_64, zl_68, zl_97, zl_99, zl_100, zl_104, zl_108, zl_114, zl_120, zl_122, zl_126, zl_132, zl_180, zl_181, zl_186, zl_255, zl_900, zl_930, zl_1000, zl_1000000, nI_add, pk_mul, zs_sub, zs_lt, zs_le, zs_eq, zs_inb, zs_cl, zm_eq, zm_eq2, zm_lt, zm_le, mz_lt, mz_le, mm_eq, zs_bit, zs_or1, zs_div, zs_rem, ck_pos, if_pos, if_neg, true_or, or_true, true_and, and_true, false_or, or_false, false_and, and_false, not_true, not_false_iff, if_true, if_false, eq_self, Bool.false_eq_true, cl2_id, Bool.not_true, Bool.not_false]
  | succ j ih =>
    intro k n b hk hn
    obtain ⟨n, rfl⟩ : ∃ n', n = n' + 1 := ⟨n - 1, by omega⟩
    rw [fX11_isWhole_4, z_al]
    have e2 := h.2.1 (68 + 8 * i + k) (by omega)
    have b2 := o3 k (by omega)
    have e3 : (z_wish r i).getD k 0 = r (68 + 8 * i + k) := z_w_at (by omega)
    have ih0 := ih (k + 1) n false (by omega) (by omega)
    have ih1 := ih (k + 1) n true (by omega) (by omega)
    unfold fX11_isWhole_44 fX11_isWhole_45
    cases b
    · simp only [Bool.false_and, Bool.false_eq_true, if_false] at ih0 ⊢
      simp (disch := omega) only [e1, cl2_so, cl1_so, ck_tr, zl_0, zl_1, zl_2, zl_3, zl_4, zl_5, zl_6, zl_7, zl_8, zl_9, zl_10, zl_11, zl_12, zl_15, zl_16, zl_20, zl_24, zl_25, zl_30, zl_31, zl_32, zl_33, zl_44, zl_48, zl_50, zl_57, zl_59, zl_60, zl_61, zl_62, zl_63, zl_64, zl_68, zl_97, zl_99, zl_100, zl_104, zl_108, zl_114, zl_120, zl_122, zl_126, zl_132, zl_180, zl_181, zl_186, zl_255, zl_900, zl_930, zl_1000, zl_1000000, nI_add, pk_mul, zs_sub, zs_lt, zs_le, zs_eq, zs_inb, zs_cl, zm_eq, zm_eq2, zm_lt, zm_le, mz_lt, mz_le, mm_eq, zs_bit, zs_or1, zs_div, zs_rem, ck_pos, if_pos, if_neg, true_or, or_true, true_and, and_true, false_or, or_false, false_and, and_false, not_true, not_false_iff, if_true, if_false, eq_self, Bool.false_eq_true, cl2_id, Bool.not_true, Bool.not_false]
      exact ih0
    · by_cases hq : r (68 + 8 * i + k) = 25
      · rw [e3, decide_eq_false (fun q => q hq), Bool.false_and]
        simp only [Bool.false_and, Bool.false_eq_true, if_false] at ih0
        simp (disch := omega) only [e1, e2, hq, Bool.and_false, cl2_so, cl1_so, ck_tr, zl_0, zl_1, zl_2, zl_3, zl_4, zl_5, zl_6, zl_7, zl_8, zl_9, zl_10, zl_11, zl_12, zl_15, zl_16, zl_20, zl_24, zl_25, zl_30, zl_31, zl_32, zl_33, zl_44, zl_48, zl_50, zl_57, zl_59, zl_60, zl_61, zl_62, zl_63, zl_64, zl_68, zl_97, zl_99, zl_100, zl_104, zl_108, zl_114, zl_120, zl_122, zl_126, zl_132, zl_180, zl_181, zl_186, zl_255, zl_900, zl_930, zl_1000, zl_1000000, nI_add, pk_mul, zs_sub, zs_lt, zs_le, zs_eq, zs_inb, zs_cl, zm_eq, zm_eq2, zm_lt, zm_le, mz_lt, mz_le, mm_eq, zs_bit, zs_or1, zs_div, zs_rem, ck_pos, if_pos, if_neg, true_or, or_true, true_and, and_true, false_or, or_false, false_and, and_false, not_true, not_false_iff, if_true, if_false, eq_self, Bool.false_eq_true, cl2_id, Bool.not_true, Bool.not_false]
        exact ih0
      · rw [e3, decide_eq_true hq, Bool.true_and]
        simp only [if_true] at ih1
        simp (disch := omega) only [e1, e2, hq, cl2_so, cl1_so, ck_tr, zl_0, zl_1, zl_2, zl_3, zl_4, zl_5, zl_6, zl_7, zl_8, zl_9, zl_10, zl_11, zl_12, zl_15, zl_16, zl_20, zl_24, zl_25, zl_30, zl_31, zl_32, zl_33, zl_44, zl_48, zl_50, zl_57, zl_59, zl_60, zl_61, zl_62, zl_63, zl_64, zl_68, zl_97, zl_99, zl_100, zl_104, zl_108, zl_114, zl_120, zl_122, zl_126, zl_132, zl_180, zl_181, zl_186, zl_255, zl_900, zl_930, zl_1000, zl_1000000, nI_add, pk_mul, zs_sub, zs_lt, zs_le, zs_eq, zs_inb, zs_cl, zm_eq, zm_eq2, zm_lt, zm_le, mz_lt, mz_le, mm_eq, zs_bit, zs_or1, zs_div, zs_rem, ck_pos, if_pos, if_neg, true_or, or_true, true_and, and_true, false_or, or_false, false_and, and_false, not_true, not_false_iff, if_true, if_false, eq_self, Bool.false_eq_true, cl2_id, Bool.not_true, Bool.not_false]
        exact ih1
theorem KM.isWhole (h : KM m r s) (hO : KO r s) {i : Nat} (hi : i < r 6) : fX11_isWhole (nI i) m = some (nI (if z_bare (z_wish r i) then 0 else 1), m) := by
  obtain ⟨-, o8, -⟩ := hO.1.2.2.2.2.2.2.2.2.1 i hi
  have e := iwh4 h hO hi (r (64 + i)) 0 FU true (by omega) (FU_pos (by omega))
  simp only [if_true, Bool.true_and] at e
  unfold fX11_isWhole
  have e2 : nI (if z_bare (z_wish r i) then 0 else 1) = nI (if z_al (fun k => decide ((z_wish r i).getD k 0 ≠ 25)) 0 (r (64 + i)) then 1 else 0) := by
    unfold z_bare
    rw [z_wish_len]
    cases z_al (fun k => decide ((z_wish r i).getD k 0 ≠ 25)) 0 (r (64 + i)) <;> rfl
  rw [e2]
  exact e
theorem mo65 (h : KM m r s) (hO : KO r s) {i : Nat} (hi : i < r 6) {L : List Nat} (hL : L.length ≤ 30) (hml : ML146 m L) (hlt : ∀ c ∈ L, c < 30) {p : Nat} (hp : p + r (64 + i) ≤ L.length) {k35 : Int32 → Int32 → Int32 → Int32 → Me → Option (Int32 × Me)} : ∀ j k n q, k + j = r (64 + i) → j < n → q ≤ k → fX11_mendOf_65 n k35 (nI i) (nI L.length) x3 (nI p) (nI q) (nI k) m = if x3 = -nI 2 then fX11_mendOf_146 k35 (nI i) (nI L.length) (nI p) (nI (q + z_ct (fun i' => !z_g (z_wish r i) (L.map (fun c => s (30 * r (100 + i) + c))) p i') k j)) m else if nI (q + z_ct (fun i' => !z_g (z_wish r i) (L.map (fun c => s (30 * r (100 + i) + c))) p i') k j) < x3 then fX11_mendOf_146 k35 (nI i) (nI L.length) (nI p) (nI (q + z_ct (fun i' => !z_g (z_wish r i) (L.map (fun c => s (30 * r (100 + i) + c))) p i') k j)) m else fX11_mendOf_155 k35 (nI i) (nI L.length) x3 (nI p) m := by
  have h6 := hO.1.2.2.2.2.1
  obtain ⟨-, o8, o1, o2, o3⟩ := hO.1.2.2.2.2.2.2.2.2.1 i hi
  have e1 := h.2.1 (64 + i) (by omega)
  have e4 := h.2.1 (100 + i) (by omega)
  intro j
  induction j with
  | zero =>
    intro k n q hk hn hq
    obtain ⟨n, rfl⟩ : ∃ n', n = n' + 1 := ⟨n - 1, by omega⟩
    rw [fX11_mendOf_65, z_ct]
    simp (disch := omega) only [e1, Nat.add_zero, cl2_so, cl1_so, ck_tr, zl_0, zl_1, zl_2, zl_3, zl_4, zl_5, zl_6, zl_7, zl_8, zl_9, zl_10, zl_11, zl_12, zl_15, zl_16, zl_20, zl_24, zl_25, zl_30, zl_31, zl_32, zl_33, zl_44, zl_48, zl_50, zl_57, zl_59, zl_60, zl_61, zl_62, zl_63, zl_64, zl_68, zl_97, zl_99, zl_100, zl_104, zl_108, zl_114, zl_120, zl_122, zl_126, zl_132, zl_180, zl_181, zl_186, zl_255, zl_900, zl_930, zl_1000, zl_1000000, nI_add, pk_mul, zs_sub, zs_lt, zs_le, zs_eq, zs_inb, zs_cl, zm_eq, zm_eq2, zm_lt, zm_le, mz_lt, mz_le, mm_eq, zs_bit, zs_or1, zs_div, zs_rem, ck_pos, if_pos, if_neg, true_or, or_true, true_and, and_true, false_or, or_false, false_and, and_false, not_true, not_false_iff, if_true, if_false, eq_self, Bool.false_eq_true, cl2_id, Bool.not_true, Bool.not_false]
  | succ j ih =>
    intro k n q hk hn hq
    obtain ⟨n, rfl⟩ : ∃ n', n = n' + 1 := ⟨n - 1, by omega⟩
    have e2 := h.2.1 (68 + 8 * i + k) (by omega)
    have b2 := o3 k (by omega)
    have e3 : (z_wish r i).getD k 0 = r (68 + 8 * i + k) := z_w_at (by omega)
    have e5 := fX11_letterAt_e h.2.2 hml hL hlt o1 (k := p + k) (by omega)
    have b5 : (L.map (fun c => s (30 * r (100 + i) + c))).getD (p + k) 0 ≤ 25 := by
      rw [getD_map0 (by omega)]
      have := hlt _ (getD_mem0 (show p + k < L.length by omega))
      exact hO.2.1 _ (by omega)
    rw [fX11_mendOf_65, z_ct]
    unfold fX11_mendOf_122
    by_cases hg : (L.map (fun c => s (30 * r (100 + i) + c))).getD (p + k) 0 = r (68 + 8 * i + k)
    · have eg : z_g (z_wish r i) (L.map (fun c => s (30 * r (100 + i) + c))) p k = true := by
        unfold z_g
        rw [e3]
        exact decide_eq_true hg
      simp (disch := omega) only [e1, e4, e5, e2, hg, cl2_so, cl1_so, ck_tr, zl_0, zl_1, zl_2, zl_3, zl_4, zl_5, zl_6, zl_7, zl_8, zl_9, zl_10, zl_11, zl_12, zl_15, zl_16, zl_20, zl_24, zl_25, zl_30, zl_31, zl_32, zl_33, zl_44, zl_48, zl_50, zl_57, zl_59, zl_60, zl_61, zl_62, zl_63, zl_64, zl_68, zl_97, zl_99, zl_100, zl_104, zl_108, zl_114, zl_120, zl_122, zl_126, zl_132, zl_180, zl_181, zl_186, zl_255, zl_900, zl_930, zl_1000, zl_1000000, nI_add, pk_mul, zs_sub, zs_lt, zs_le, zs_eq, zs_inb, zs_cl, zm_eq, zm_eq2, zm_lt, zm_le, mz_lt, mz_le, mm_eq, zs_bit, zs_or1, zs_div, zs_rem, ck_pos, if_pos, if_neg, true_or, or_true, true_and, and_true, false_or, or_false, false_and, and_false, not_true, not_false_iff, if_true, if_false, eq_self, Bool.false_eq_true, cl2_id, Bool.not_true, Bool.not_false]
      rw [ih (k + 1) n (q + 0) (by omega) (by omega) (by omega)]
      simp only [eg, Bool.not_true, Bool.false_eq_true, if_false, Nat.add_zero, Nat.zero_add]
    · have eg : z_g (z_wish r i) (L.map (fun c => s (30 * r (100 + i) + c))) p k = false := by
        unfold z_g
        rw [e3]
        exact decide_eq_false hg
      simp (disch := omega) only [e1, e4, e5, e2, hg, cl2_so, cl1_so, ck_tr, zl_0, zl_1, zl_2, zl_3, zl_4, zl_5, zl_6, zl_7, zl_8, zl_9, zl_10, zl_11, zl_12, zl_15, zl_16, zl_20, zl_24, zl_25, zl_30, zl_31, zl_32, zl_33, zl_44, zl_48, zl_50, zl_57, zl_59, zl_60, zl_61, zl_62, zl_63, zl_64, zl_68, zl_97, zl_99, zl_100, zl_104, zl_108, zl_114, zl_120, zl_122, zl_126, zl_132, zl_180, zl_181, zl_186, zl_255, zl_900, zl_930, zl_1000, zl_1000000, nI_add, pk_mul, zs_sub, zs_lt, zs_le, zs_eq, zs_inb, zs_cl, zm_eq, zm_eq2, zm_lt, zm_le, mz_lt, mz_le, mm_eq, zs_bit, zs_or1, zs_div, zs_rem, ck_pos, if_pos, if_neg, true_or, or_true, true_and, and_true, false_or, or_false, false_and, and_false, not_true, not_false_iff, if_true, if_false, eq_self, Bool.false_eq_true, cl2_id, Bool.not_true, Bool.not_false]
      rw [ih (k + 1) n (q + 1) (by omega) (by omega) (by omega)]
      simp only [eg, Bool.not_false, if_true, Nat.add_assoc]
theorem mo35 (hO : KO r s) {i : Nat} (hi : i < r 6) {L : List Nat} (hL : L.length ≤ 30) (hlt : ∀ c ∈ L, c < 30) (hb : z_bare (z_wish r i) = false) : ∀ j k n b (m : Me), KM m r s → ML146 m L → m.1 138 26 = bP b → k + j = L.length + 1 - r (64 + i) → j < n → bOK (z_wish r i) (L.map (fun c => s (30 * r (100 + i) + c))) k b → ∃ m', fX11_mendOf_35 n (nI i) (nI L.length) (bC2 b) (nI k) m = some (bC2 (z_be (z_wish r i) (L.map (fun c => s (30 * r (100 + i) + c))) k j b), m') ∧ Ak sN m m' ∧ m'.1 138 26 = bP (z_be (z_wish r i) (L.map (fun c => s (30 * r (100 + i) + c))) k j b) := by
  have h6 := hO.1.2.2.2.2.1
  obtain ⟨o7, o8, o1, o2, o3⟩ := hO.1.2.2.2.2.2.2.2.2.1 i hi
  intro j
  induction j with
  | zero =>
    intro k n b m h hml h26 hk hn hbk
    obtain ⟨n, rfl⟩ : ∃ n', n = n' + 1 := ⟨n - 1, by omega⟩
    have e1 := h.2.1 (64 + i) (by omega)
    refine ⟨m, ?_, Ak.rf m, by rw [z_be]; exact h26⟩
    rw [fX11_mendOf_35, z_be]
    unfold fX11_mendOf_161
    simp (disch := omega) only [e1, cl2_so, cl1_so, ck_tr, zl_0, zl_1, zl_2, zl_3, zl_4, zl_5, zl_6, zl_7, zl_8, zl_9, zl_10, zl_11, zl_12, zl_15, zl_16, zl_20, zl_24, zl_25, zl_30, zl_31, zl_32, zl_33, zl_44, zl_48, zl_50, zl_57, zl_59, zl_60, zl_61, zl_62, zl_63, zl_64, zl_68, zl_97, zl_99, zl_100, zl_104, zl_108, zl_114, zl_120, zl_122, zl_126, zl_132, zl_180, zl_181, zl_186, zl_255, zl_900, zl_930, zl_1000, zl_1000000, nI_add, pk_mul, zs_sub, zs_lt, zs_le, zs_eq, zs_inb, zs_cl, zm_eq, zm_eq2, zm_lt, zm_le, mz_lt, mz_le, mm_eq, zs_bit, zs_or1, zs_div, zs_rem, ck_pos, if_pos, if_neg, true_or, or_true, true_and, and_true, false_or, or_false, false_and, and_false, not_true, not_false_iff, if_true, if_false, eq_self, Bool.false_eq_true, cl2_id, Bool.not_true, Bool.not_false]
  | succ j ih =>
    intro k n b m h hml h26 hk hn hbk
    obtain ⟨n, rfl⟩ : ∃ n', n = n' + 1 := ⟨n - 1, by omega⟩
    have e1 := h.2.1 (64 + i) (by omega)
    have e2 := h.isWhole hO hi
    rw [hb] at e2
    have e3 := mo65 (x3 := bC2 b) h hO hi hL hml hlt (p := k) (by omega) (k35 := fX11_mendOf_35 n) (r (64 + i)) 0 FU 0 (by omega) (FU_pos (by omega)) (by omega)
    rw [Nat.zero_add] at e3
    have hcl := z_co_le (z_wish r i) (L.map (fun c => s (30 * r (100 + i) + c))) k
    have ec : z_ct (fun i' => !z_g (z_wish r i) (L.map (fun c => s (30 * r (100 + i) + c))) k i') 0 (r (64 + i)) = z_co (z_wish r i) (L.map (fun c => s (30 * r (100 + i) + c))) k := by
      unfold z_co
      rw [z_wish_len]
    rw [z_wish_len] at hcl
    rw [ec] at e3
    have hA : Ak sN m (setI m 138 26 (nI k)) := (Ak.rf m).set _ (by decide)
    have upd := ih (k + 1) n (some (z_co (z_wish r i) (L.map (fun c => s (30 * r (100 + i) + c))) k, k)) (setI m 138 26 (nI k)) (h.ag hA.agN) (fun i' hi' => (sI_na (by decide)).trans (hml i' hi')) (sI_eq _ _ _ _) (by omega) (by omega) ⟨rfl, by show k < k + 1; omega⟩
    rw [fX11_mendOf_35]
    unfold fX11_mendOf_146 fX11_mendOf_155 at e3
    cases b with
    | none =>
      rw [z_be]
      obtain ⟨m2, f1, f2, f3⟩ := upd
      refine ⟨m2, ?_, hA.tr f2, f3⟩
      simp only [bC2] at e3 f1 ⊢
      simp (disch := omega) only [e1, e2, cl2_so, cl1_so, ck_tr, zl_0, zl_1, zl_2, zl_3, zl_4, zl_5, zl_6, zl_7, zl_8, zl_9, zl_10, zl_11, zl_12, zl_15, zl_16, zl_20, zl_24, zl_25, zl_30, zl_31, zl_32, zl_33, zl_44, zl_48, zl_50, zl_57, zl_59, zl_60, zl_61, zl_62, zl_63, zl_64, zl_68, zl_97, zl_99, zl_100, zl_104, zl_108, zl_114, zl_120, zl_122, zl_126, zl_132, zl_180, zl_181, zl_186, zl_255, zl_900, zl_930, zl_1000, zl_1000000, nI_add, pk_mul, zs_sub, zs_lt, zs_le, zs_eq, zs_inb, zs_cl, zm_eq, zm_eq2, zm_lt, zm_le, mz_lt, mz_le, mm_eq, zs_bit, zs_or1, zs_div, zs_rem, ck_pos, if_pos, if_neg, true_or, or_true, true_and, and_true, false_or, or_false, false_and, and_false, not_true, not_false_iff, if_true, if_false, eq_self, Bool.false_eq_true, cl2_id, Bool.not_true, Bool.not_false]
      rw [e3]
      simp (disch := omega) only [cl2_so, cl1_so, ck_tr, zl_0, zl_1, zl_2, zl_3, zl_4, zl_5, zl_6, zl_7, zl_8, zl_9, zl_10, zl_11, zl_12, zl_15, zl_16, zl_20, zl_24, zl_25, zl_30, zl_31, zl_32, zl_33, zl_44, zl_48, zl_50, zl_57, zl_59, zl_60, zl_61, zl_62, zl_63, zl_64, zl_68, zl_97, zl_99, zl_100, zl_104, zl_108, zl_114, zl_120, zl_122, zl_126, zl_132, zl_180, zl_181, zl_186, zl_255, zl_900, zl_930, zl_1000, zl_1000000, nI_add, pk_mul, zs_sub, zs_lt, zs_le, zs_eq, zs_inb, zs_cl, zm_eq, zm_eq2, zm_lt, zm_le, mz_lt, mz_le, mm_eq, zs_bit, zs_or1, zs_div, zs_rem, ck_pos, if_pos, if_neg, true_or, or_true, true_and, and_true, false_or, or_false, false_and, and_false, not_true, not_false_iff, if_true, if_false, eq_self, Bool.false_eq_true, cl2_id, Bool.not_true, Bool.not_false]
      exact f1
    | some b =>
      rw [z_be]
      have hb1 : b.1 ≤ 8 := by have := z_co_le (z_wish r i) (L.map (fun c => s (30 * r (100 + i) + c))) b.2; rw [z_wish_len] at this; rw [hbk.1]; omega
      by_cases hq : z_co (z_wish r i) (L.map (fun c => s (30 * r (100 + i) + c))) k < b.1
      · rw [if_pos hq]
        obtain ⟨m2, f1, f2, f3⟩ := upd
        refine ⟨m2, ?_, hA.tr f2, f3⟩
        simp only [bC2] at e3 f1 ⊢
        simp (disch := omega) only [e1, e2, cl2_so, cl1_so, ck_tr, zl_0, zl_1, zl_2, zl_3, zl_4, zl_5, zl_6, zl_7, zl_8, zl_9, zl_10, zl_11, zl_12, zl_15, zl_16, zl_20, zl_24, zl_25, zl_30, zl_31, zl_32, zl_33, zl_44, zl_48, zl_50, zl_57, zl_59, zl_60, zl_61, zl_62, zl_63, zl_64, zl_68, zl_97, zl_99, zl_100, zl_104, zl_108, zl_114, zl_120, zl_122, zl_126, zl_132, zl_180, zl_181, zl_186, zl_255, zl_900, zl_930, zl_1000, zl_1000000, nI_add, pk_mul, zs_sub, zs_lt, zs_le, zs_eq, zs_inb, zs_cl, zm_eq, zm_eq2, zm_lt, zm_le, mz_lt, mz_le, mm_eq, zs_bit, zs_or1, zs_div, zs_rem, ck_pos, if_pos, if_neg, true_or, or_true, true_and, and_true, false_or, or_false, false_and, and_false, not_true, not_false_iff, if_true, if_false, eq_self, Bool.false_eq_true, cl2_id, Bool.not_true, Bool.not_false]
        rw [e3]
        simp (disch := omega) only [cl2_so, cl1_so, ck_tr, zl_0, zl_1, zl_2, zl_3, zl_4, zl_5, zl_6, zl_7, zl_8, zl_9, zl_10, zl_11, zl_12, zl_15, zl_16, zl_20, zl_24, zl_25, zl_30, zl_31, zl_32, zl_33, zl_44, zl_48, zl_50, zl_57, zl_59, zl_60, zl_61, zl_62, zl_63, zl_64, zl_68, zl_97, zl_99, zl_100, zl_104, zl_108, zl_114, zl_120, zl_122, zl_126, zl_132, zl_180, zl_181, zl_186, zl_255, zl_900, zl_930, zl_1000, zl_1000000, nI_add, pk_mul, zs_sub, zs_lt, zs_le, zs_eq, zs_inb, zs_cl, zm_eq, zm_eq2, zm_lt, zm_le, mz_lt, mz_le, mm_eq, zs_bit, zs_or1, zs_div, zs_rem, ck_pos, if_pos, if_neg, true_or, or_true, true_and, and_true, false_or, or_false, false_and, and_false, not_true, not_false_iff, if_true, if_false, eq_self, Bool.false_eq_true, cl2_id, Bool.not_true, Bool.not_false]
        exact f1
      · rw [if_neg hq]
        obtain ⟨m2, f1, f2, f3⟩ := ih (k + 1) n (some b) m h hml h26 (by omega) (by omega) ⟨hbk.1, by have := hbk.2; show b.2 < k + 1; omega⟩
        refine ⟨m2, ?_, f2, f3⟩
        simp only [bC2] at e3 f1 ⊢
        simp (disch := omega) only [e1, e2, cl2_so, cl1_so, ck_tr, zl_0, zl_1, zl_2, zl_3, zl_4, zl_5, zl_6, zl_7, zl_8, zl_9, zl_10, zl_11, zl_12, zl_15, zl_16, zl_20, zl_24, zl_25, zl_30, zl_31, zl_32, zl_33, zl_44, zl_48, zl_50, zl_57, zl_59, zl_60, zl_61, zl_62, zl_63, zl_64, zl_68, zl_97, zl_99, zl_100, zl_104, zl_108, zl_114, zl_120, zl_122, zl_126, zl_132, zl_180, zl_181, zl_186, zl_255, zl_900, zl_930, zl_1000, zl_1000000, nI_add, pk_mul, zs_sub, zs_lt, zs_le, zs_eq, zs_inb, zs_cl, zm_eq, zm_eq2, zm_lt, zm_le, mz_lt, mz_le, mm_eq, zs_bit, zs_or1, zs_div, zs_rem, ck_pos, if_pos, if_neg, true_or, or_true, true_and, and_true, false_or, or_false, false_and, and_false, not_true, not_false_iff, if_true, if_false, eq_self, Bool.false_eq_true, cl2_id, Bool.not_true, Bool.not_false]
        rw [e3]
        simp (disch := omega) only [cl2_so, cl1_so, ck_tr, zl_0, zl_1, zl_2, zl_3, zl_4, zl_5, zl_6, zl_7, zl_8, zl_9, zl_10, zl_11, zl_12, zl_15, zl_16, zl_20, zl_24, zl_25, zl_30, zl_31, zl_32, zl_33, zl_44, zl_48, zl_50, zl_57, zl_59, zl_60, zl_61, zl_62, zl_63, zl_64, zl_68, zl_97, zl_99, zl_100, zl_104, zl_108, zl_114, zl_120, zl_122, zl_126, zl_132, zl_180, zl_181, zl_186, zl_255, zl_900, zl_930, zl_1000, zl_1000000, nI_add, pk_mul, zs_sub, zs_lt, zs_le, zs_eq, zs_inb, zs_cl, zm_eq, zm_eq2, zm_lt, zm_le, mz_lt, mz_le, mm_eq, zs_bit, zs_or1, zs_div, zs_rem, ck_pos, if_pos, if_neg, true_or, or_true, true_and, and_true, false_or, or_false, false_and, and_false, not_true, not_false_iff, if_true, if_false, eq_self, Bool.false_eq_true, cl2_id, Bool.not_true, Bool.not_false]
        exact f1
def zbm (r s : Nat → Nat) (i : Nat) : Option (Nat × Nat) := if z_bare (z_wish r i) then none else z_be (z_wish r i) (zT r s (r (100 + i)) (r (104 + i)) (s 60)) 0 ((zT r s (r (100 + i)) (r (104 + i)) (s 60)).length + 1 - (z_wish r i).length) none
theorem KM.mendOf (h : KM m r s) (hO : KO r s) {i : Nat} (hi : i < r 6) : ∃ m', fX11_mendOf (nI i) m = some (bC2 (zbm r s i), m') ∧ Ak sN m m' ∧ m'.1 138 26 = bP (zbm r s i) := by
  have h6 := hO.1.2.2.2.2.1
  obtain ⟨o7, o8, o1, o2, o3⟩ := hO.1.2.2.2.2.2.2.2.2.1 i hi
  have hL := z_show_len hO.1.1 (side := r (100 + i)) (br := s 60) o2
  have e1 := h.2.1 (100 + i) (by omega)
  have e2 := h.2.1 (104 + i) (by omega)
  have hA : Ak sN m (setI (wl m 147 0 (z_show r (r (100 + i)) (r (104 + i)) (s 60))) 138 26 (-nI 2)) := (ak_146 _).set _ (by decide)
  have hKM := h.ag hA.agN
  have hml : ML146 (setI (wl m 147 0 (z_show r (r (100 + i)) (r (104 + i)) (s 60))) 138 26 (-nI 2)) (z_show r (r (100 + i)) (r (104 + i)) (s 60)) := fun k hk => (sI_na (by decide)).trans (ML_wl _ k hk)
  unfold fX11_mendOf zbm
  cases hb : z_bare (z_wish r i)
  · obtain ⟨m2, f1, f2, f3⟩ := mo35 hO hi hL (z_show_lt hO.1.1 o2) hb ((z_show r (r (100 + i)) (r (104 + i)) (s 60)).length + 1 - r (64 + i)) 0 FU none _ hKM hml (sI_eq _ _ _ _) (by omega) (FU_pos (by omega)) trivial
    have ez : (zT r s (r (100 + i)) (r (104 + i)) (s 60)).length + 1 - (z_wish r i).length = (z_show r (r (100 + i)) (r (104 + i)) (s 60)).length + 1 - r (64 + i) := by rw [zT_len, z_wish_len]
    refine ⟨m2, ?_, hA.tr f2, by rw [if_neg (by decide), ez]; exact f3⟩
    rw [if_neg (by decide), ez]
    simp (disch := omega) only [e1, e2, h.layNow hO o1 o2, cl2_so, cl1_so, ck_tr, zl_0, zl_1, zl_2, zl_3, zl_4, zl_5, zl_6, zl_7, zl_8, zl_9, zl_10, zl_11, zl_12, zl_15, zl_16, zl_20, zl_24, zl_25, zl_30, zl_31, zl_32, zl_33, zl_44, zl_48, zl_50, zl_57, zl_59, zl_60, zl_61, zl_62, zl_63, zl_64, zl_68, zl_97, zl_99, zl_100, zl_104, zl_108, zl_114, zl_120, zl_122, zl_126, zl_132, zl_180, zl_181, zl_186, zl_255, zl_900, zl_930, zl_1000, zl_1000000, nI_add, pk_mul, zs_sub, zs_lt, zs_le, zs_eq, zs_inb, zs_cl, zm_eq, zm_eq2, zm_lt, zm_le, mz_lt, mz_le, mm_eq, zs_bit, zs_or1, zs_div, zs_rem, ck_pos, if_pos, if_neg, true_or, or_true, true_and, and_true, false_or, or_false, false_and, and_false, not_true, not_false_iff, if_true, if_false, eq_self, Bool.false_eq_true, cl2_id, Bool.not_true, Bool.not_false]
    exact f1
  · refine ⟨_, ?_, hA, sI_eq _ _ _ _⟩
    have e3 := hKM.isWhole hO hi
    have e4 := hKM.2.1 (64 + i) (by omega)
    rw [hb] at e3
    simp (disch := omega) only [e1, e2, h.layNow hO o1 o2, cl2_so, cl1_so, ck_tr, zl_0, zl_1, zl_2, zl_3, zl_4, zl_5, zl_6, zl_7, zl_8, zl_9, zl_10, zl_11, zl_12, zl_15, zl_16, zl_20, zl_24, zl_25, zl_30, zl_31, zl_32, zl_33, zl_44, zl_48, zl_50, zl_57, zl_59, zl_60, zl_61, zl_62, zl_63, zl_64, zl_68, zl_97, zl_99, zl_100, zl_104, zl_108, zl_114, zl_120, zl_122, zl_126, zl_132, zl_180, zl_181, zl_186, zl_255, zl_900, zl_930, zl_1000, zl_1000000, nI_add, pk_mul, zs_sub, zs_lt, zs_le, zs_eq, zs_inb, zs_cl, zm_eq, zm_eq2, zm_lt, zm_le, mz_lt, mz_le, mm_eq, zs_bit, zs_or1, zs_div, zs_rem, ck_pos, if_pos, if_neg, true_or, or_true, true_and, and_true, false_or, or_false, false_and, and_false, not_true, not_false_iff, if_true, if_false, eq_self, Bool.false_eq_true, cl2_id, Bool.not_true, Bool.not_false]
    rw [show FU = 1999 + 1 from rfl, fX11_mendOf_35]
    unfold fX11_mendOf_161
    simp (disch := omega) only [e4, e3, ite_self, cl2_so, cl1_so, ck_tr, zl_0, zl_1, zl_2, zl_3, zl_4, zl_5, zl_6, zl_7, zl_8, zl_9, zl_10, zl_11, zl_12, zl_15, zl_16, zl_20, zl_24, zl_25, zl_30, zl_31, zl_32, zl_33, zl_44, zl_48, zl_50, zl_57, zl_59, zl_60, zl_61, zl_62, zl_63, zl_64, zl_68, zl_97, zl_99, zl_100, zl_104, zl_108, zl_114, zl_120, zl_122, zl_126, zl_132, zl_180, zl_181, zl_186, zl_255, zl_900, zl_930, zl_1000, zl_1000000, nI_add, pk_mul, zs_sub, zs_lt, zs_le, zs_eq, zs_inb, zs_cl, zm_eq, zm_eq2, zm_lt, zm_le, mz_lt, mz_le, mm_eq, zs_bit, zs_or1, zs_div, zs_rem, ck_pos, if_pos, if_neg, true_or, or_true, true_and, and_true, false_or, or_false, false_and, and_false, not_true, not_false_iff, if_true, if_false, eq_self, Bool.false_eq_true, cl2_id, Bool.not_true, Bool.not_false]
    rfl
theorem KC.bestPlace (h : KC m t r s) (hO : KO r s) {i : Nat} (hi : i < r 6) : ∃ m', fX10_bestPlace (t + 19 + 2 * i) m = some (bP (zbm r s i), m') ∧ Ak sC m m' ∧ KC m' t r s ∧ RLt m' 88 (zT r s (r (100 + i)) (r (104 + i)) (s 60)) := by
  have h6 := hO.1.2.2.2.2.1
  obtain ⟨o7, o8, o1, o2, o3⟩ := hO.1.2.2.2.2.2.2.2.2.1 i hi
  obtain ⟨m', e, h1, h2, h3, h4⟩ := h.lookAt hO o1 o2
  obtain ⟨q1, q2, q3⟩ := h.wish hi
  have hw := wish_ok hO.1 hi
  have e2 := fX7_cheapestPlace_e h3 (h2.wish hi).1 hw.lt hw.1 (zT_30 hO _ o2) (zT_k hO _ o1 o2)
  refine ⟨m', ?_, h1, h2, h3⟩
  unfold fX10_bestPlace zbm
  simp (disch := omega) only [q2, q3, e, e2, cl2_so, cl1_so, ck_tr, zl_0, zl_1, zl_2, zl_3, zl_4, zl_5, zl_6, zl_7, zl_8, zl_9, zl_10, zl_11, zl_12, zl_15, zl_16, zl_20, zl_24, zl_25, zl_30, zl_31, zl_32, zl_33, zl_44, zl_48, zl_50, zl_57, zl_59, zl_60, zl_61, zl_62, zl_63, zl_64, zl_68, zl_97, zl_99, zl_100, zl_104, zl_108, zl_114, zl_120, zl_122, zl_126, zl_132, zl_180, zl_181, zl_186, zl_255, zl_900, zl_930, zl_1000, zl_1000000, nI_add, pk_mul, zs_sub, zs_lt, zs_le, zs_eq, zs_inb, zs_cl, zm_eq, zm_eq2, zm_lt, zm_le, mz_lt, mz_le, mm_eq, zs_bit, zs_or1, zs_div, zs_rem, ck_pos, if_pos, if_neg, true_or, or_true, true_and, and_true, false_or, or_false, false_and, and_false, not_true, not_false_iff, if_true, if_false, eq_self, Bool.false_eq_true, cl2_id, Bool.not_true, Bool.not_false]
theorem zbm_ok (hO : KO r s) {i : Nat} : bOK (z_wish r i) (zT r s (r (100 + i)) (r (104 + i)) (s 60)) ((zT r s (r (100 + i)) (r (104 + i)) (s 60)).length + 1 - (z_wish r i).length) (zbm r s i) := by
  unfold zbm
  split
  · exact trivial
  · exact z_be_ok _ 0 none trivial (by omega)
theorem b_mend (hI : Inv m) (hC : JC m H r s) (hM : JM m H r s) (hO : JO H r s) : Both (fX10_mend x1) (fX11_mend x1) m := by
  cases hv : vN H (r 6) x1
  · refine ⟨-nI 1, 1, ?_, fun m1 h1 => ?_⟩
    · unfold fX10_mend
      simp (disch := omega) only [fX10_noWish_e hC, hv, cl2_so, cl1_so, ck_tr, zl_0, zl_1, zl_2, zl_3, zl_4, zl_5, zl_6, zl_7, zl_8, zl_9, zl_10, zl_11, zl_12, zl_15, zl_16, zl_20, zl_24, zl_25, zl_30, zl_31, zl_32, zl_33, zl_44, zl_48, zl_50, zl_57, zl_59, zl_60, zl_61, zl_62, zl_63, zl_64, zl_68, zl_97, zl_99, zl_100, zl_104, zl_108, zl_114, zl_120, zl_122, zl_126, zl_132, zl_180, zl_181, zl_186, zl_255, zl_900, zl_930, zl_1000, zl_1000000, nI_add, pk_mul, zs_sub, zs_lt, zs_le, zs_eq, zs_inb, zs_cl, zm_eq, zm_eq2, zm_lt, zm_le, mz_lt, mz_le, mm_eq, zs_bit, zs_or1, zs_div, zs_rem, ck_pos, if_pos, if_neg, true_or, or_true, true_and, and_true, false_or, or_false, false_and, and_false, not_true, not_false_iff, if_true, if_false, eq_self, Bool.false_eq_true, cl2_id, Bool.not_true, Bool.not_false]
      exact ansC_no 1 (Ak.rf m)
    · have hM1 := hM.ag (h1.agC.tr (gd_ak m1).agM)
      unfold fX11_mend fX11_mend_25
      simp (disch := omega) only [gd_e, fX11_isWish_e hM1 hO, hv, cl2_so, cl1_so, ck_tr, zl_0, zl_1, zl_2, zl_3, zl_4, zl_5, zl_6, zl_7, zl_8, zl_9, zl_10, zl_11, zl_12, zl_15, zl_16, zl_20, zl_24, zl_25, zl_30, zl_31, zl_32, zl_33, zl_44, zl_48, zl_50, zl_57, zl_59, zl_60, zl_61, zl_62, zl_63, zl_64, zl_68, zl_97, zl_99, zl_100, zl_104, zl_108, zl_114, zl_120, zl_122, zl_126, zl_132, zl_180, zl_181, zl_186, zl_255, zl_900, zl_930, zl_1000, zl_1000000, nI_add, pk_mul, zs_sub, zs_lt, zs_le, zs_eq, zs_inb, zs_cl, zm_eq, zm_eq2, zm_lt, zm_le, mz_lt, mz_le, mm_eq, zs_bit, zs_or1, zs_div, zs_rem, ck_pos, if_pos, if_neg, true_or, or_true, true_and, and_true, false_or, or_false, false_and, and_false, not_true, not_false_iff, if_true, if_false, eq_self, Bool.false_eq_true, cl2_id, Bool.not_true, Bool.not_false]
      exact ansM_no 1 (gd_ak m1)
  · have hH := vN_H hv
    subst hH
    have hK : KO r s := hO rfl
    have h6 := hK.1.2.2.2.2.1
    obtain ⟨i, hi, rfl⟩ := vN_in (hK.1.2.1 6 (by decide)) hv
    obtain ⟨o7, o8, o1, o2, o3⟩ := hK.1.2.2.2.2.2.2.2.2.1 i hi
    obtain ⟨m', e, g1, g2, g3⟩ := (hC.kc hI).bestPlace hK hi
    refine ⟨bC2 (zbm r s i), 0, ?_, fun m1 h1 => ?_⟩
    · unfold fX10_mend fX10_mend_57
      have hbk := zbm_ok hK (i := i)
      have h30 := zT_30 hK (side := r (100 + i)) (s 60) o2
      have hw := wish_ok hK.1 hi
      have hw1 := hw.1
      cases hz : zbm r s i with
      | none =>
        rw [hz] at e
        simp only [bP, bC2] at e ⊢
        simp (disch := omega) only [fX10_noWish_e hC, hv, (hC.kc hI).1, e, cl2_so, cl1_so, ck_tr, zl_0, zl_1, zl_2, zl_3, zl_4, zl_5, zl_6, zl_7, zl_8, zl_9, zl_10, zl_11, zl_12, zl_15, zl_16, zl_20, zl_24, zl_25, zl_30, zl_31, zl_32, zl_33, zl_44, zl_48, zl_50, zl_57, zl_59, zl_60, zl_61, zl_62, zl_63, zl_64, zl_68, zl_97, zl_99, zl_100, zl_104, zl_108, zl_114, zl_120, zl_122, zl_126, zl_132, zl_180, zl_181, zl_186, zl_255, zl_900, zl_930, zl_1000, zl_1000000, nI_add, pk_mul, zs_sub, zs_lt, zs_le, zs_eq, zs_inb, zs_cl, zm_eq, zm_eq2, zm_lt, zm_le, mz_lt, mz_le, mm_eq, zs_bit, zs_or1, zs_div, zs_rem, ck_pos, if_pos, if_neg, true_or, or_true, true_and, and_true, false_or, or_false, false_and, and_false, not_true, not_false_iff, if_true, if_false, eq_self, Bool.false_eq_true, cl2_id, Bool.not_true, Bool.not_false]
        exact ansC_ok _ g1
      | some b =>
        rw [hz] at e hbk
        obtain ⟨hb1, hb2⟩ := hbk
        have e2 := fX7_strangeAt_e g3 (g2.wish hi).1 hw.2.1 h30 hw.2.2 (zT_k hK _ o1 o2) (p := b.2) (by omega)
        rw [if_pos (by omega)] at e2
        have e3 : z_ct (fun i_1 => !z_g (z_wish r i) (zT r s (r (100 + i)) (r (104 + i)) (s 60)) b.2 i_1) 0 (z_wish r i).length = b.1 := hb1.symm
        rw [e3] at e2
        simp only [bP, bC2] at e ⊢
        simp (disch := omega) only [fX10_noWish_e hC, hv, (hC.kc hI).1, e, g2.1, e2, cl2_so, cl1_so, ck_tr, zl_0, zl_1, zl_2, zl_3, zl_4, zl_5, zl_6, zl_7, zl_8, zl_9, zl_10, zl_11, zl_12, zl_15, zl_16, zl_20, zl_24, zl_25, zl_30, zl_31, zl_32, zl_33, zl_44, zl_48, zl_50, zl_57, zl_59, zl_60, zl_61, zl_62, zl_63, zl_64, zl_68, zl_97, zl_99, zl_100, zl_104, zl_108, zl_114, zl_120, zl_122, zl_126, zl_132, zl_180, zl_181, zl_186, zl_255, zl_900, zl_930, zl_1000, zl_1000000, nI_add, pk_mul, zs_sub, zs_lt, zs_le, zs_eq, zs_inb, zs_cl, zm_eq, zm_eq2, zm_lt, zm_le, mz_lt, mz_le, mm_eq, zs_bit, zs_or1, zs_div, zs_rem, ck_pos, if_pos, if_neg, true_or, or_true, true_and, and_true, false_or, or_false, false_and, and_false, not_true, not_false_iff, if_true, if_false, eq_self, Bool.false_eq_true, cl2_id, Bool.not_true, Bool.not_false]
        exact ansC_ok _ g1
    · have hM1 := hM.ag (h1.agC.tr (gd_ak m1).agM)
      obtain ⟨m2, e2, f1, f2⟩ := hM1.km.mendOf hK hi
      unfold fX11_mend fX11_mend_25
      simp (disch := omega) only [gd_e, fX11_isWish_e hM1 hO, hv, e2, cl2_so, cl1_so, ck_tr, zl_0, zl_1, zl_2, zl_3, zl_4, zl_5, zl_6, zl_7, zl_8, zl_9, zl_10, zl_11, zl_12, zl_15, zl_16, zl_20, zl_24, zl_25, zl_30, zl_31, zl_32, zl_33, zl_44, zl_48, zl_50, zl_57, zl_59, zl_60, zl_61, zl_62, zl_63, zl_64, zl_68, zl_97, zl_99, zl_100, zl_104, zl_108, zl_114, zl_120, zl_122, zl_126, zl_132, zl_180, zl_181, zl_186, zl_255, zl_900, zl_930, zl_1000, zl_1000000, nI_add, pk_mul, zs_sub, zs_lt, zs_le, zs_eq, zs_inb, zs_cl, zm_eq, zm_eq2, zm_lt, zm_le, mz_lt, mz_le, mm_eq, zs_bit, zs_or1, zs_div, zs_rem, ck_pos, if_pos, if_neg, true_or, or_true, true_and, and_true, false_or, or_false, false_and, and_false, not_true, not_false_iff, if_true, if_false, eq_self, Bool.false_eq_true, cl2_id, Bool.not_true, Bool.not_false]
      exact ansN_ok _ f1
theorem b_mendAt (hI : Inv m) (hC : JC m H r s) (hM : JM m H r s) (hO : JO H r s) : Both (fX10_mendAt x1) (fX11_mendAt x1) m := by
  cases hv : vN H (r 6) x1
  · refine ⟨-nI 1, 1, ?_, fun m1 h1 => ?_⟩
    · unfold fX10_mendAt
      simp (disch := omega) only [fX10_noWish_e hC, hv, cl2_so, cl1_so, ck_tr, zl_0, zl_1, zl_2, zl_3, zl_4, zl_5, zl_6, zl_7, zl_8, zl_9, zl_10, zl_11, zl_12, zl_15, zl_16, zl_20, zl_24, zl_25, zl_30, zl_31, zl_32, zl_33, zl_44, zl_48, zl_50, zl_57, zl_59, zl_60, zl_61, zl_62, zl_63, zl_64, zl_68, zl_97, zl_99, zl_100, zl_104, zl_108, zl_114, zl_120, zl_122, zl_126, zl_132, zl_180, zl_181, zl_186, zl_255, zl_900, zl_930, zl_1000, zl_1000000, nI_add, pk_mul, zs_sub, zs_lt, zs_le, zs_eq, zs_inb, zs_cl, zm_eq, zm_eq2, zm_lt, zm_le, mz_lt, mz_le, mm_eq, zs_bit, zs_or1, zs_div, zs_rem, ck_pos, if_pos, if_neg, true_or, or_true, true_and, and_true, false_or, or_false, false_and, and_false, not_true, not_false_iff, if_true, if_false, eq_self, Bool.false_eq_true, cl2_id, Bool.not_true, Bool.not_false]
      exact ansC_no 1 (Ak.rf m)
    · have hM1 := hM.ag (h1.agC.tr (gd_ak m1).agM)
      unfold fX11_mendAt
      simp (disch := omega) only [gd_e, fX11_isWish_e hM1 hO, hv, cl2_so, cl1_so, ck_tr, zl_0, zl_1, zl_2, zl_3, zl_4, zl_5, zl_6, zl_7, zl_8, zl_9, zl_10, zl_11, zl_12, zl_15, zl_16, zl_20, zl_24, zl_25, zl_30, zl_31, zl_32, zl_33, zl_44, zl_48, zl_50, zl_57, zl_59, zl_60, zl_61, zl_62, zl_63, zl_64, zl_68, zl_97, zl_99, zl_100, zl_104, zl_108, zl_114, zl_120, zl_122, zl_126, zl_132, zl_180, zl_181, zl_186, zl_255, zl_900, zl_930, zl_1000, zl_1000000, nI_add, pk_mul, zs_sub, zs_lt, zs_le, zs_eq, zs_inb, zs_cl, zm_eq, zm_eq2, zm_lt, zm_le, mz_lt, mz_le, mm_eq, zs_bit, zs_or1, zs_div, zs_rem, ck_pos, if_pos, if_neg, true_or, or_true, true_and, and_true, false_or, or_false, false_and, and_false, not_true, not_false_iff, if_true, if_false, eq_self, Bool.false_eq_true, cl2_id, Bool.not_true, Bool.not_false]
      exact ansM_no 1 (gd_ak m1)
  · have hH := vN_H hv
    subst hH
    have hK : KO r s := hO rfl
    have h6 := hK.1.2.2.2.2.1
    obtain ⟨i, hi, rfl⟩ := vN_in (hK.1.2.1 6 (by decide)) hv
    obtain ⟨m', e, g1, g2, g3⟩ := (hC.kc hI).bestPlace hK hi
    refine ⟨bP (zbm r s i), 0, ?_, fun m1 h1 => ?_⟩
    · unfold fX10_mendAt
      simp (disch := omega) only [fX10_noWish_e hC, hv, (hC.kc hI).1, e, cl2_so, cl1_so, ck_tr, zl_0, zl_1, zl_2, zl_3, zl_4, zl_5, zl_6, zl_7, zl_8, zl_9, zl_10, zl_11, zl_12, zl_15, zl_16, zl_20, zl_24, zl_25, zl_30, zl_31, zl_32, zl_33, zl_44, zl_48, zl_50, zl_57, zl_59, zl_60, zl_61, zl_62, zl_63, zl_64, zl_68, zl_97, zl_99, zl_100, zl_104, zl_108, zl_114, zl_120, zl_122, zl_126, zl_132, zl_180, zl_181, zl_186, zl_255, zl_900, zl_930, zl_1000, zl_1000000, nI_add, pk_mul, zs_sub, zs_lt, zs_le, zs_eq, zs_inb, zs_cl, zm_eq, zm_eq2, zm_lt, zm_le, mz_lt, mz_le, mm_eq, zs_bit, zs_or1, zs_div, zs_rem, ck_pos, if_pos, if_neg, true_or, or_true, true_and, and_true, false_or, or_false, false_and, and_false, not_true, not_false_iff, if_true, if_false, eq_self, Bool.false_eq_true, cl2_id, Bool.not_true, Bool.not_false]
      exact ansC_ok _ g1
    · have hM1 := hM.ag (h1.agC.tr (gd_ak m1).agM)
      obtain ⟨m2, e2, f1, f2⟩ := hM1.km.mendOf hK hi
      unfold fX11_mendAt
      simp (disch := omega) only [gd_e, fX11_isWish_e hM1 hO, hv, e2, f2, cl2_so, cl1_so, ck_tr, zl_0, zl_1, zl_2, zl_3, zl_4, zl_5, zl_6, zl_7, zl_8, zl_9, zl_10, zl_11, zl_12, zl_15, zl_16, zl_20, zl_24, zl_25, zl_30, zl_31, zl_32, zl_33, zl_44, zl_48, zl_50, zl_57, zl_59, zl_60, zl_61, zl_62, zl_63, zl_64, zl_68, zl_97, zl_99, zl_100, zl_104, zl_108, zl_114, zl_120, zl_122, zl_126, zl_132, zl_180, zl_181, zl_186, zl_255, zl_900, zl_930, zl_1000, zl_1000000, nI_add, pk_mul, zs_sub, zs_lt, zs_le, zs_eq, zs_inb, zs_cl, zm_eq, zm_eq2, zm_lt, zm_le, mz_lt, mz_le, mm_eq, zs_bit, zs_or1, zs_div, zs_rem, ck_pos, if_pos, if_neg, true_or, or_true, true_and, and_true, false_or, or_false, false_and, and_false, not_true, not_false_iff, if_true, if_false, eq_self, Bool.false_eq_true, cl2_id, Bool.not_true, Bool.not_false]
      exact ansN_ok _ f1
end C10
