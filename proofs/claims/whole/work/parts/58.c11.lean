/-! copies; calm, calmAt -/
theorem cpyI_a {m : Me} {a0 a1 p0 p1 n b k : Nat} (h : b ≠ a1) : (cpyI m a0 a1 p0 p1 n).1 b k = m.1 b k := if_neg h
theorem cpyI_in {m : Me} {a0 a1 p0 p1 n k : Nat} (h1 : p1 ≤ k) (h2 : k < p1 + n) : (cpyI m a0 a1 p0 p1 n).1 a1 k = m.1 a0 (p0 + (k - p1)) := (if_pos rfl).trans (pk_cpy_in h1 h2)
theorem cpyI_out {m : Me} {a0 a1 p0 p1 n k : Nat} (h : k < p1 ∨ p1 + n ≤ k) : (cpyI m a0 a1 p0 p1 n).1 a1 k = m.1 a1 k := (if_pos rfl).trans (pk_cpy_out h)
theorem cpyI_2 {m : Me} {a0 a1 p0 p1 n : Nat} : (cpyI m a0 a1 p0 p1 n).2 = m.2 := rfl
theorem cpyI_0 {m : Me} {a0 a1 p0 p1 : Nat} : cpyI m a0 a1 p0 p1 0 = m := by
  refine me_ext (fun b k => ?_) (fun _ _ => rfl)
  by_cases h : b = a1
  · subst h
    rw [cpyI_out (by omega)]
  · rw [cpyI_a h]
theorem cpyI_s {m : Me} {a0 a1 p0 p1 k : Nat} (h : a0 ≠ a1) : setI (cpyI m a0 a1 p0 p1 k) a1 (p1 + k) ((cpyI m a0 a1 p0 p1 k).1 a0 (p0 + k)) = cpyI m a0 a1 p0 p1 (k + 1) := by
  refine me_ext (fun b i => ?_) (fun _ _ => rfl)
  by_cases hb : b = a1
  · subst hb
    by_cases hi : i = p1 + k
    · subst hi
      rw [sI_eq, cpyI_a h, cpyI_in (by omega) (by omega), show p1 + k - p1 = k by omega]
    · rw [sI_nj hi]
      by_cases h2 : p1 ≤ i ∧ i < p1 + k
      · rw [cpyI_in h2.1 h2.2, cpyI_in h2.1 (by omega)]
      · rw [cpyI_out (by omega), cpyI_out (by omega)]
  · rw [sI_na hb, cpyI_a hb, cpyI_a hb]
theorem cp3 {a0 a2 p0 p1 N : Nat} (h : a0 ≠ a2) (h0 : p0 + N ≤ ln a0) (h2 : p1 + N ≤ ln a2) (b0 : p0 < 100000) (b2 : p1 < 100000) (bN : N < 100000) {m : Me} : ∀ j k n, k + j = N → j < n → fX11_copy_3 n a0 (nI p0) a2 (nI p1) (nI N) (nI k) (cpyI m a0 a2 p0 p1 k) = some (cpyI m a0 a2 p0 p1 N) := by
  intro j
  induction j with
  | zero =>
    intro k n hk hn
    obtain ⟨n, rfl⟩ : ∃ n', n = n' + 1 := ⟨n - 1, by omega⟩
    have e : k = N := by omega
    subst e
    rw [fX11_copy_3]
    simp (disch := omega) only [cl2_so, cl1_so, ck_tr, zl_0, zl_1, zl_2, zl_3, zl_4, zl_5, zl_6, zl_7, zl_8, zl_9, zl_10, zl_11, zl_12, zl_15, zl_16, zl_20, zl_24, zl_25, zl_30, zl_31, zl_32, zl_33, zl_44, zl_48, zl_50, zl_57, zl_59, zl_60, zl_61, zl_62, zl_63, zl_64, zl_68, zl_97, zl_99, zl_100, zl_104, zl_108, zl_114, zl_120, zl_122, zl_126, zl_132, zl_180, zl_181, zl_186, zl_255, zl_900, zl_930, zl_1000, zl_1000000, nI_add, pk_mul, zs_sub, zs_lt, zs_le, zs_eq, zs_inb, zs_cl, zm_eq, zm_eq2, zm_lt, zm_le, mz_lt, mz_le, mm_eq, zs_bit, zs_or1, zs_div, zs_rem, ck_pos, if_pos, if_neg, true_or, or_true, true_and, and_true, false_or, or_false, false_and, and_false, not_true, not_false_iff, if_true, if_false, eq_self, Bool.false_eq_true, cl2_id, Bool.not_true, Bool.not_false]
  | succ j ih =>
    intro k n hk hn
    obtain ⟨n, rfl⟩ : ∃ n', n = n' + 1 := ⟨n - 1, by omega⟩
    rw [fX11_copy_3]
    simp (disch := omega) only [cl2_so, cl1_so, ck_tr, zl_0, zl_1, zl_2, zl_3, zl_4, zl_5, zl_6, zl_7, zl_8, zl_9, zl_10, zl_11, zl_12, zl_15, zl_16, zl_20, zl_24, zl_25, zl_30, zl_31, zl_32, zl_33, zl_44, zl_48, zl_50, zl_57, zl_59, zl_60, zl_61, zl_62, zl_63, zl_64, zl_68, zl_97, zl_99, zl_100, zl_104, zl_108, zl_114, zl_120, zl_122, zl_126, zl_132, zl_180, zl_181, zl_186, zl_255, zl_900, zl_930, zl_1000, zl_1000000, nI_add, pk_mul, zs_sub, zs_lt, zs_le, zs_eq, zs_inb, zs_cl, zm_eq, zm_eq2, zm_lt, zm_le, mz_lt, mz_le, mm_eq, zs_bit, zs_or1, zs_div, zs_rem, ck_pos, if_pos, if_neg, true_or, or_true, true_and, and_true, false_or, or_false, false_and, and_false, not_true, not_false_iff, if_true, if_false, eq_self, Bool.false_eq_true, cl2_id, Bool.not_true, Bool.not_false]
    rw [cpyI_s h]
    exact ih (k + 1) n (by omega) (by omega)
theorem fX11_copy_e {a0 a2 p0 p1 N : Nat} (h : a0 ≠ a2) (h0 : p0 + N ≤ ln a0) (h2 : p1 + N ≤ ln a2) (b0 : p0 < 100000) (b2 : p1 < 100000) (bN : N < 2000) (m : Me) : fX11_copy a0 (nI p0) a2 (nI p1) (nI N) m = some (cpyI m a0 a2 p0 p1 N) := by
  have e := cp3 h h0 h2 b0 b2 (by omega) (m := m) N 0 FU (by omega) (FU_pos (by omega))
  rw [cpyI_0] at e
  exact e
theorem Ak.cpy {sc : Nat → Nat → Bool} {m m' : Me} (h : Ak sc m m') {a0 a1 p0 p1 n : Nat} (hs : ∀ j, sc a1 j = true) : Ak sc m (cpyI m' a0 a1 p0 p1 n) := ⟨fun b k e => by
  by_cases hb : b = a1
  · rw [hb, hs k] at e; cases e
  · rw [cpyI_a hb]; exact h.1 b k e, h.2⟩
/-- the search of both -/
def cLt (sum : Nat) : Option (Nat × List Nat) → Bool
  | none => true
  | some p => decide (sum < p.1)
def calL (rec : List Nat → Nat → Nat → Option (Nat × List Nat) → Option (Nat × List Nat)) (A : Nat → Nat → Nat) (ord : List Nat) (used sum : Nat) : Nat → Nat → Option (Nat × List Nat) → Option (Nat × List Nat)
  | _, 0, st => st
  | k, j + 1, st => calL rec A ord used sum (k + 1) j (if used.testBit k then st else rec (ord ++ [k]) (used ||| 2 ^ k) (sum + (if ord.length = 0 then 0 else A (ord.getD (ord.length - 1) 0) k)) st)
def cal (N : Nat) (A : Nat → Nat → Nat) : Nat → List Nat → Nat → Nat → Option (Nat × List Nat) → Option (Nat × List Nat)
  | 0, _, _, _, st => st
  | n + 1, ord, used, sum, st => if cLt sum st then (if ord.length < N then calL (cal N A n) A ord used sum 0 N st else some (sum, ord)) else st
def cLe (d : Nat) : Option (Nat × List Nat) → Int32
  | none => nI d
  | some p => nI p.1
/-- where a search stands: row o the order, a the table, b the best, and what is least -/
def CalG (m : Me) (d lA lJ : Nat) (o a b : Nat) (N : Nat) (A : Nat → Nat → Nat) (ord : List Nat) (st : Option (Nat × List Nat)) : Prop :=
  m.1 lA lJ = cLe d st ∧ (∀ i, i < ord.length → m.1 o i = nI (ord.getD i 0)) ∧ (∀ x y, x < N → y < N → m.1 a (x * 6 + y) = nI (A x y)) ∧ ∀ p, st = some p → p.1 ≤ 180 ∧ p.2.length = N ∧ ∀ i, i < N → m.1 b i = nI (p.2.getD i 0)
theorem CalG.pre {m : Me} {d lA lJ o a b N : Nat} {A : Nat → Nat → Nat} {ord : List Nat} {k : Nat} {st : Option (Nat × List Nat)} (h : CalG m d lA lJ o a b N A (ord ++ [k]) st) : CalG m d lA lJ o a b N A ord st := ⟨h.1, fun i hi => by
  have := h.2.1 i (by simp; omega)
  rw [getD_l hi] at this
  exact this, h.2.2⟩
theorem CalG.put {m : Me} {d lA lJ o a b N : Nat} {A : Nat → Nat → Nat} {ord : List Nat} {k : Nat} {st : Option (Nat × List Nat)} (h : CalG m d lA lJ o a b N A ord st) (h1 : lA ≠ o) (h2 : a ≠ o) (h3 : b ≠ o) : CalG (setI m o ord.length (nI k)) d lA lJ o a b N A (ord ++ [k]) st := ⟨(sI_na h1).trans h.1, fun i hi => by
  rw [List.length_append] at hi
  simp at hi
  by_cases q : i = ord.length
  · subst q
    rw [sI_eq]
    simp
  · rw [sI_nj q, h.2.1 i (by omega), getD_l (by omega)], fun x y hx hy => (sI_na h2).trans (h.2.2.1 x y hx hy), fun p hp => ⟨(h.2.2.2 p hp).1, (h.2.2.2 p hp).2.1, fun i hi => (sI_na h3).trans ((h.2.2.2 p hp).2.2 i hi)⟩⟩
section C14
variable {m : Me} {H : Bool} {t : Nat} {r s : Nat → Nat} {x1 x2 x3 x4 : Int32} {N : Nat} {A : Nat → Nat → Nat}
theorem or6 {a k : Nat} (ha : a < 64) (hk : k < 6) : a ||| 2 ^ k < 64 := Nat.or_lt_two_pow (n := 6) ha (Nat.pow_lt_pow_right (by decide) hk)
def CalC (m : Me) (N : Nat) (A : Nat → Nat → Nat) (ord : List Nat) (st : Option (Nat × List Nat)) : Prop := CalG m 181 127 4 130 128 129 N A ord st ∧ m.1 127 3 = nI N
theorem to44 (hN : N ≤ 6) (hA : ∀ x y, x < N → y < N → A x y ≤ 30) {n : Nat} {ord : List Nat} {used sum : Nat} (hlen : ord.length < N) (hs : sum ≤ 30 * ord.length) (hu : used < 64) (hin : ∀ i, i < ord.length → ord.getD i 0 < N)
    (ih : ∀ (ord : List Nat) (used sum : Nat) (st : Option (Nat × List Nat)) (m : Me), CalC m N A ord st → ord.length ≤ N → N < ord.length + n → sum ≤ 30 * ord.length → used < 64 → (∀ i, i < ord.length → ord.getD i 0 < N) → ∃ m', fX1_tryOrders n (nI ord.length) (nI used) (nI sum) m = some m' ∧ Ak sC m m' ∧ CalC m' N A ord (cal N A n ord used sum st)) (hn : N < ord.length + (n + 1)) : ∀ j k f st (m : Me), CalC m N A ord st → k + j = N → j < f → ∃ m', fX1_tryOrders_44 (fX1_tryOrders n) f (nI ord.length) (nI used) (nI sum) (nI k) m = some m' ∧ Ak sC m m' ∧ CalC m' N A ord (calL (cal N A n) A ord used sum k j st) := by
  intro j
  induction j with
  | zero =>
    intro k f st m h hk hf
    obtain ⟨f, rfl⟩ : ∃ f', f = f' + 1 := ⟨f - 1, by omega⟩
    refine ⟨m, ?_, Ak.rf m, h⟩
    rw [fX1_tryOrders_44]
    simp (disch := omega) only [h.2, cl2_so, cl1_so, ck_tr, zl_0, zl_1, zl_2, zl_3, zl_4, zl_5, zl_6, zl_7, zl_8, zl_9, zl_10, zl_11, zl_12, zl_15, zl_16, zl_20, zl_24, zl_25, zl_30, zl_31, zl_32, zl_33, zl_44, zl_48, zl_50, zl_57, zl_59, zl_60, zl_61, zl_62, zl_63, zl_64, zl_68, zl_97, zl_99, zl_100, zl_104, zl_108, zl_114, zl_120, zl_122, zl_126, zl_132, zl_180, zl_181, zl_186, zl_255, zl_900, zl_930, zl_1000, zl_1000000, nI_add, pk_mul, zs_sub, zs_lt, zs_le, zs_eq, zs_inb, zs_cl, zm_eq, zm_eq2, zm_lt, zm_le, mz_lt, mz_le, mm_eq, zs_bit, zs_or1, zs_div, zs_rem, ck_pos, if_pos, if_neg, true_or, or_true, true_and, and_true, false_or, or_false, false_and, and_false, not_true, not_false_iff, if_true, if_false, eq_self, Bool.false_eq_true, cl2_id, Bool.not_true, Bool.not_false]
  | succ j ihj =>
    intro k f st m h hk hf
    obtain ⟨f, rfl⟩ : ∃ f', f = f' + 1 := ⟨f - 1, by omega⟩
    rw [fX1_tryOrders_44, calL]
    unfold fX1_tryOrders_97 fX1_tryOrders_116
    cases hb : used.testBit k
    · have h1 : CalC (setI m 130 ord.length (nI k)) N A (ord ++ [k]) st := ⟨h.1.put (by decide) (by decide) (by decide), (sI_na (by decide)).trans h.2⟩
      have hA1 : Ak sC m (setI m 130 ord.length (nI k)) := (Ak.rf m).set _ (sC_in (by omega) _)
      have hl1 : (ord ++ [k]).length = ord.length + 1 := by simp
      have hin1 : ∀ i, i < (ord ++ [k]).length → (ord ++ [k]).getD i 0 < N := by
        intro i hi
        rw [hl1] at hi
        by_cases q : i = ord.length
        · subst q; simp; omega
        · rw [getD_l (by omega)]; exact hin i (by omega)
      by_cases h0 : ord.length = 0
      · obtain ⟨m2, f1, f2, f3⟩ := ih (ord ++ [k]) (used ||| 2 ^ k) (sum + 0) st _ h1 (by omega) (by omega) (by omega) (or6 hu (by omega)) hin1
        obtain ⟨m3, g1, g2, g3⟩ := ihj (k + 1) f _ m2 ⟨f3.1.pre, f3.2⟩ (by omega) (by omega)
        rw [hl1] at f1
        refine ⟨m3, ?_, (hA1.tr f2).tr g2, ?_⟩
        · have e3 := h.2
          rw [h0] at f1 g1 ⊢
          simp (disch := omega) only [e3, hb, f1, cl2_so, cl1_so, ck_tr, zl_0, zl_1, zl_2, zl_3, zl_4, zl_5, zl_6, zl_7, zl_8, zl_9, zl_10, zl_11, zl_12, zl_15, zl_16, zl_20, zl_24, zl_25, zl_30, zl_31, zl_32, zl_33, zl_44, zl_48, zl_50, zl_57, zl_59, zl_60, zl_61, zl_62, zl_63, zl_64, zl_68, zl_97, zl_99, zl_100, zl_104, zl_108, zl_114, zl_120, zl_122, zl_126, zl_132, zl_180, zl_181, zl_186, zl_255, zl_900, zl_930, zl_1000, zl_1000000, nI_add, pk_mul, zs_sub, zs_lt, zs_le, zs_eq, zs_inb, zs_cl, zm_eq, zm_eq2, zm_lt, zm_le, mz_lt, mz_le, mm_eq, zs_bit, zs_or1, zs_div, zs_rem, ck_pos, if_pos, if_neg, true_or, or_true, true_and, and_true, false_or, or_false, false_and, and_false, not_true, not_false_iff, if_true, if_false, eq_self, Bool.false_eq_true, cl2_id, Bool.not_true, Bool.not_false]
          exact g1
        · rw [if_neg (show ¬ false = true by decide), if_pos h0]
          exact g3
      · have hx := hin (ord.length - 1) (by omega)
        have hav := hA (ord.getD (ord.length - 1) 0) k hx (by omega)
        obtain ⟨m2, f1, f2, f3⟩ := ih (ord ++ [k]) (used ||| 2 ^ k) (sum + A (ord.getD (ord.length - 1) 0) k) st _ h1 (by omega) (by omega) (by omega) (or6 hu (by omega)) hin1
        obtain ⟨m3, g1, g2, g3⟩ := ihj (k + 1) f _ m2 ⟨f3.1.pre, f3.2⟩ (by omega) (by omega)
        rw [hl1] at f1
        refine ⟨m3, ?_, (hA1.tr f2).tr g2, ?_⟩
        · have e3 := h.2
          have e4 := h1.1.pre.2.1 (ord.length - 1) (by omega)
          have e5 := h1.1.2.2.1 (ord.getD (ord.length - 1) 0) k hx (by omega)
          simp (disch := omega) only [e3, hb, e4, e5, f1, cl2_so, cl1_so, ck_tr, zl_0, zl_1, zl_2, zl_3, zl_4, zl_5, zl_6, zl_7, zl_8, zl_9, zl_10, zl_11, zl_12, zl_15, zl_16, zl_20, zl_24, zl_25, zl_30, zl_31, zl_32, zl_33, zl_44, zl_48, zl_50, zl_57, zl_59, zl_60, zl_61, zl_62, zl_63, zl_64, zl_68, zl_97, zl_99, zl_100, zl_104, zl_108, zl_114, zl_120, zl_122, zl_126, zl_132, zl_180, zl_181, zl_186, zl_255, zl_900, zl_930, zl_1000, zl_1000000, nI_add, pk_mul, zs_sub, zs_lt, zs_le, zs_eq, zs_inb, zs_cl, zm_eq, zm_eq2, zm_lt, zm_le, mz_lt, mz_le, mm_eq, zs_bit, zs_or1, zs_div, zs_rem, ck_pos, if_pos, if_neg, true_or, or_true, true_and, and_true, false_or, or_false, false_and, and_false, not_true, not_false_iff, if_true, if_false, eq_self, Bool.false_eq_true, cl2_id, Bool.not_true, Bool.not_false]
          exact g1
        · rw [if_neg (show ¬ false = true by decide), if_neg h0]
          exact g3
    · obtain ⟨m3, g1, g2, g3⟩ := ihj (k + 1) f st m h (by omega) (by omega)
      refine ⟨m3, ?_, g2, ?_⟩
      · simp (disch := omega) only [h.2, hb, cl2_so, cl1_so, ck_tr, zl_0, zl_1, zl_2, zl_3, zl_4, zl_5, zl_6, zl_7, zl_8, zl_9, zl_10, zl_11, zl_12, zl_15, zl_16, zl_20, zl_24, zl_25, zl_30, zl_31, zl_32, zl_33, zl_44, zl_48, zl_50, zl_57, zl_59, zl_60, zl_61, zl_62, zl_63, zl_64, zl_68, zl_97, zl_99, zl_100, zl_104, zl_108, zl_114, zl_120, zl_122, zl_126, zl_132, zl_180, zl_181, zl_186, zl_255, zl_900, zl_930, zl_1000, zl_1000000, nI_add, pk_mul, zs_sub, zs_lt, zs_le, zs_eq, zs_inb, zs_cl, zm_eq, zm_eq2, zm_lt, zm_le, mz_lt, mz_le, mm_eq, zs_bit, zs_or1, zs_div, zs_rem, ck_pos, if_pos, if_neg, true_or, or_true, true_and, and_true, false_or, or_false, false_and, and_false, not_true, not_false_iff, if_true, if_false, eq_self, Bool.false_eq_true, cl2_id, Bool.not_true, Bool.not_false]
        exact g1
      · rw [if_pos rfl]
        exact g3
theorem tryO (hN : N ≤ 6) (hA : ∀ x y, x < N → y < N → A x y ≤ 30) : ∀ n (ord : List Nat) (used sum : Nat) (st : Option (Nat × List Nat)) (m : Me), CalC m N A ord st → ord.length ≤ N → N < ord.length + n → sum ≤ 30 * ord.length → used < 64 → (∀ i, i < ord.length → ord.getD i 0 < N) → ∃ m', fX1_tryOrders n (nI ord.length) (nI used) (nI sum) m = some m' ∧ Ak sC m m' ∧ CalC m' N A ord (cal N A n ord used sum st) := by
  intro n
  induction n with
  | zero => intro ord used sum st m h h1 h2; omega
  | succ n ih =>
    intro ord used sum st m h h1 h2 h3 h4 h5
    rw [fX1_tryOrders, cal]
    have hsum : (nI sum < m.1 127 4) ↔ cLt sum st = true := by
      rw [h.1.1]
      cases st with
      | none =>
        show nI sum < nI 181 ↔ _
        rw [zs_lt (by omega) (by omega)]
        exact iff_of_true (by omega) rfl
      | some p =>
        have := (h.1.2.2.2 p rfl).1
        show nI sum < nI p.1 ↔ decide (sum < p.1) = true
        rw [zs_lt (by omega) (by omega), decide_eq_true_eq]
    cases hc : cLt sum st
    · have hq : ¬ nI sum < m.1 127 4 := fun q => by rw [hsum, hc] at q; cases q
      refine ⟨m, ?_, Ak.rf m, ?_⟩
      · rw [if_neg hq]
      · rw [if_neg (show ¬ false = true by decide)]
        exact h
    · have hq : nI sum < m.1 127 4 := hsum.mpr hc
      rw [if_pos hq, h.2]
      by_cases hl : ord.length < N
      · rw [if_pos ((zs_lt (by omega) (by omega)).mpr hl), if_pos rfl, if_pos hl]
        exact to44 hN hA hl h3 h4 h5 ih h2 N 0 FU st m h (by omega) (FU_pos (by omega))
      · rw [if_neg (fun q => hl ((zs_lt (by omega) (by omega)).mp q)), if_pos rfl, if_neg hl]
        have hle : ord.length = N := by omega
        refine ⟨_, rfl, ((Ak.rf m).set _ (sC_in (by omega) _)).cpy (sC_in (by omega)), ⟨⟨?_, ?_, ?_, ?_⟩, ?_⟩⟩
        · rw [cpyI_a (by decide), sI_eq]
          rfl
        · intro i hi
          rw [cpyI_a (by decide), sI_na (by decide)]
          exact h.1.2.1 i hi
        · intro x y hx hy
          rw [cpyI_a (by decide), sI_na (by decide)]
          exact h.1.2.2.1 x y hx hy
        · intro p hp
          have hp := Option.some.inj hp
          subst hp
          refine ⟨by show sum ≤ 180; omega, hle, fun i hi => ?_⟩
          rw [cpyI_in (by omega) (by omega), sI_na (by decide)]
          show m.1 130 (0 + (i - 0)) = _
          rw [Nat.zero_add, Nat.sub_zero]
          exact h.1.2.1 i (by omega)
        · rw [cpyI_a (by decide), sI_nj (by decide)]
          exact h.2
/-! the reference -/
def CalM (m : Me) (N : Nat) (A : Nat → Nat → Nat) (ord : List Nat) (st : Option (Nat × List Nat)) : Prop := CalG m 1000000 138 31 155 157 156 N A ord st ∧ m.1 141 8 = nI N
theorem cf43 (hN : N ≤ 6) (hA : ∀ x y, x < N → y < N → A x y ≤ 30) {n : Nat} {ord : List Nat} {used sum : Nat} (hlen : ord.length < N) (hs : sum ≤ 30 * ord.length) (hu : used < 64) (hin : ∀ i, i < ord.length → ord.getD i 0 < N)
    (ih : ∀ (ord : List Nat) (used sum : Nat) (st : Option (Nat × List Nat)) (m : Me), CalM m N A ord st → ord.length ≤ N → N < ord.length + n → sum ≤ 30 * ord.length → used < 64 → (∀ i, i < ord.length → ord.getD i 0 < N) → ∃ m', fX11_calmFrom n (nI ord.length) (nI used) (nI sum) m = some m' ∧ Ak sN m m' ∧ CalM m' N A ord (cal N A n ord used sum st)) (hn : N < ord.length + (n + 1)) : ∀ j k f st (m : Me), CalM m N A ord st → k + j = N → j < f → ∃ m', fX11_calmFrom_43 (fX11_calmFrom n) f (nI ord.length) (nI used) (nI sum) (nI k) m = some m' ∧ Ak sN m m' ∧ CalM m' N A ord (calL (cal N A n) A ord used sum k j st) := by
  intro j
  induction j with
  | zero =>
    intro k f st m h hk hf
    obtain ⟨f, rfl⟩ : ∃ f', f = f' + 1 := ⟨f - 1, by omega⟩
    refine ⟨m, ?_, Ak.rf m, h⟩
    rw [fX11_calmFrom_43]
    simp (disch := omega) only [h.2, cl2_so, cl1_so, ck_tr, zl_0, zl_1, zl_2, zl_3, zl_4, zl_5, zl_6, zl_7, zl_8, zl_9, zl_10, zl_11, zl_12, zl_15, zl_16, zl_20, zl_24, zl_25, zl_30, zl_31, zl_32, zl_33, zl_44, zl_48, zl_50, zl_57, zl_59, zl_60, zl_61, zl_62, zl_63, zl_64, zl_68, zl_97, zl_99, zl_100, zl_104, zl_108, zl_114, zl_120, zl_122, zl_126, zl_132, zl_180, zl_181, zl_186, zl_255, zl_900, zl_930, zl_1000, zl_1000000, nI_add, pk_mul, zs_sub, zs_lt, zs_le, zs_eq, zs_inb, zs_cl, zm_eq, zm_eq2, zm_lt, zm_le, mz_lt, mz_le, mm_eq, zs_bit, zs_or1, zs_div, zs_rem, ck_pos, if_pos, if_neg, true_or, or_true, true_and, and_true, false_or, or_false, false_and, and_false, not_true, not_false_iff, if_true, if_false, eq_self, Bool.false_eq_true, cl2_id, Bool.not_true, Bool.not_false]
  | succ j ihj =>
    intro k f st m h hk hf
    obtain ⟨f, rfl⟩ : ∃ f', f = f' + 1 := ⟨f - 1, by omega⟩
    rw [fX11_calmFrom_43, calL]
    unfold fX11_calmFrom_113 fX11_calmFrom_117
    have eh := fX11_has_e (br := used) (k := k) (by omega) (by omega) m
    cases hb : used.testBit k
    · have h1 : CalM (setI m 155 ord.length (nI k)) N A (ord ++ [k]) st := ⟨h.1.put (by decide) (by decide) (by decide), (sI_na (by decide)).trans h.2⟩
      have hA1 : Ak sN m (setI m 155 ord.length (nI k)) := (Ak.rf m).set _ (sN_in (by omega) _)
      have hl1 : (ord ++ [k]).length = ord.length + 1 := by simp
      have hin1 : ∀ i, i < (ord ++ [k]).length → (ord ++ [k]).getD i 0 < N := by
        intro i hi
        rw [hl1] at hi
        by_cases q : i = ord.length
        · subst q; simp; omega
        · rw [getD_l (by omega)]; exact hin i (by omega)
      by_cases h0 : ord.length = 0
      · obtain ⟨m2, f1, f2, f3⟩ := ih (ord ++ [k]) (used ||| 2 ^ k) (sum + 0) st _ h1 (by omega) (by omega) (by omega) (or6 hu (by omega)) hin1
        obtain ⟨m3, g1, g2, g3⟩ := ihj (k + 1) f _ m2 ⟨f3.1.pre, f3.2⟩ (by omega) (by omega)
        rw [hl1] at f1
        refine ⟨m3, ?_, (hA1.tr f2).tr g2, ?_⟩
        · have e3 := h.2
          rw [h0] at f1 g1 ⊢
          simp (disch := omega) only [e3, eh, hb, f1, cl2_so, cl1_so, ck_tr, zl_0, zl_1, zl_2, zl_3, zl_4, zl_5, zl_6, zl_7, zl_8, zl_9, zl_10, zl_11, zl_12, zl_15, zl_16, zl_20, zl_24, zl_25, zl_30, zl_31, zl_32, zl_33, zl_44, zl_48, zl_50, zl_57, zl_59, zl_60, zl_61, zl_62, zl_63, zl_64, zl_68, zl_97, zl_99, zl_100, zl_104, zl_108, zl_114, zl_120, zl_122, zl_126, zl_132, zl_180, zl_181, zl_186, zl_255, zl_900, zl_930, zl_1000, zl_1000000, nI_add, pk_mul, zs_sub, zs_lt, zs_le, zs_eq, zs_inb, zs_cl, zm_eq, zm_eq2, zm_lt, zm_le, mz_lt, mz_le, mm_eq, zs_bit, zs_or1, zs_div, zs_rem, ck_pos, if_pos, if_neg, true_or, or_true, true_and, and_true, false_or, or_false, false_and, and_false, not_true, not_false_iff, if_true, if_false, eq_self, Bool.false_eq_true, cl2_id, Bool.not_true, Bool.not_false]
          exact g1
        · rw [if_neg (show ¬ false = true by decide), if_pos h0]
          exact g3
      · have hx := hin (ord.length - 1) (by omega)
        have hav := hA (ord.getD (ord.length - 1) 0) k hx (by omega)
        obtain ⟨m2, f1, f2, f3⟩ := ih (ord ++ [k]) (used ||| 2 ^ k) (sum + A (ord.getD (ord.length - 1) 0) k) st _ h1 (by omega) (by omega) (by omega) (or6 hu (by omega)) hin1
        obtain ⟨m3, g1, g2, g3⟩ := ihj (k + 1) f _ m2 ⟨f3.1.pre, f3.2⟩ (by omega) (by omega)
        rw [hl1] at f1
        refine ⟨m3, ?_, (hA1.tr f2).tr g2, ?_⟩
        · have e3 := h.2
          have e4 := h1.1.pre.2.1 (ord.length - 1) (by omega)
          have e5 := h1.1.2.2.1 (ord.getD (ord.length - 1) 0) k hx (by omega)
          have e6 : 6 * ord.getD (ord.length - 1) 0 = ord.getD (ord.length - 1) 0 * 6 := Nat.mul_comm _ _
          simp (disch := omega) only [e3, eh, hb, e4, e6, e5, f1, cl2_so, cl1_so, ck_tr, zl_0, zl_1, zl_2, zl_3, zl_4, zl_5, zl_6, zl_7, zl_8, zl_9, zl_10, zl_11, zl_12, zl_15, zl_16, zl_20, zl_24, zl_25, zl_30, zl_31, zl_32, zl_33, zl_44, zl_48, zl_50, zl_57, zl_59, zl_60, zl_61, zl_62, zl_63, zl_64, zl_68, zl_97, zl_99, zl_100, zl_104, zl_108, zl_114, zl_120, zl_122, zl_126, zl_132, zl_180, zl_181, zl_186, zl_255, zl_900, zl_930, zl_1000, zl_1000000, nI_add, pk_mul, zs_sub, zs_lt, zs_le, zs_eq, zs_inb, zs_cl, zm_eq, zm_eq2, zm_lt, zm_le, mz_lt, mz_le, mm_eq, zs_bit, zs_or1, zs_div, zs_rem, ck_pos, if_pos, if_neg, true_or, or_true, true_and, and_true, false_or, or_false, false_and, and_false, not_true, not_false_iff, if_true, if_false, eq_self, Bool.false_eq_true, cl2_id, Bool.not_true, Bool.not_false]
          exact g1
        · rw [if_neg (show ¬ false = true by decide), if_neg h0]
          exact g3
    · obtain ⟨m3, g1, g2, g3⟩ := ihj (k + 1) f st m h (by omega) (by omega)
      refine ⟨m3, ?_, g2, ?_⟩
      · simp (disch := omega) only [h.2, eh, hb, cl2_so, cl1_so, ck_tr, zl_0, zl_1, zl_2, zl_3, zl_4, zl_5, zl_6, zl_7, zl_8, zl_9, zl_10, zl_11, zl_12, zl_15, zl_16, zl_20, zl_24, zl_25, zl_30, zl_31, zl_32, zl_33, zl_44, zl_48, zl_50, zl_57, zl_59, zl_60, zl_61, zl_62, zl_63, zl_64, zl_68, zl_97, zl_99, zl_100, zl_104, zl_108, zl_114, zl_120, zl_122, zl_126, zl_132, zl_180, zl_181, zl_186, zl_255, zl_900, zl_930, zl_1000, zl_1000000, nI_add, pk_mul, zs_sub, zs_lt, zs_le, zs_eq, zs_inb, zs_cl, zm_eq, zm_eq2, zm_lt, zm_le, mz_lt, mz_le, mm_eq, zs_bit, zs_or1, zs_div, zs_rem, ck_pos, if_pos, if_neg, true_or, or_true, true_and, and_true, false_or, or_false, false_and, and_false, not_true, not_false_iff, if_true, if_false, eq_self, Bool.false_eq_true, cl2_id, Bool.not_true, Bool.not_false]
        exact g1
      · rw [if_pos rfl]
        exact g3
theorem calmF (hN : N ≤ 6) (hA : ∀ x y, x < N → y < N → A x y ≤ 30) : ∀ n (ord : List Nat) (used sum : Nat) (st : Option (Nat × List Nat)) (m : Me), CalM m N A ord st → ord.length ≤ N → N < ord.length + n → sum ≤ 30 * ord.length → used < 64 → (∀ i, i < ord.length → ord.getD i 0 < N) → ∃ m', fX11_calmFrom n (nI ord.length) (nI used) (nI sum) m = some m' ∧ Ak sN m m' ∧ CalM m' N A ord (cal N A n ord used sum st) := by
  intro n
  induction n with
  | zero => intro ord used sum st m h h1 h2; omega
  | succ n ih =>
    intro ord used sum st m h h1 h2 h3 h4 h5
    rw [fX11_calmFrom, cal]
    have hsum : (nI sum < m.1 138 31) ↔ cLt sum st = true := by
      rw [h.1.1]
      cases st with
      | none =>
        show nI sum < nI 1000000 ↔ _
        rw [zs_lt (by omega) (by omega)]
        exact iff_of_true (by omega) rfl
      | some p =>
        have := (h.1.2.2.2 p rfl).1
        show nI sum < nI p.1 ↔ decide (sum < p.1) = true
        rw [zs_lt (by omega) (by omega), decide_eq_true_eq]
    cases hc : cLt sum st
    · have hq : ¬ nI sum < m.1 138 31 := fun q => by rw [hsum, hc] at q; cases q
      refine ⟨m, ?_, Ak.rf m, ?_⟩
      · rw [if_neg hq]
      · rw [if_neg (show ¬ false = true by decide)]
        exact h
    · have hq : nI sum < m.1 138 31 := hsum.mpr hc
      rw [if_pos hq, h.2]
      by_cases hl : ord.length < N
      · rw [if_neg (fun q => by rw [zs_eq (by omega) (by omega)] at q; omega), if_pos rfl, if_pos hl]
        exact cf43 hN hA hl h3 h4 h5 ih h2 N 0 FU st m h (by omega) (FU_pos (by omega))
      · have hle : ord.length = N := by omega
        rw [if_pos (by rw [hle]), if_pos rfl, if_neg hl]
        have hcp := fX11_copy_e (a0 := 155) (a2 := 156) (p0 := 0) (p1 := 0) (N := ord.length) (by decide) (by rw [show ln 155 = 6 from rfl]; omega) (by rw [show ln 156 = 6 from rfl]; omega) (by decide) (by decide) (by omega) (setI m 138 31 (nI sum))
        have hcp' : fX11_copy 155 (0 : Int32) 156 (0 : Int32) (nI ord.length) (setI m 138 31 (nI sum)) = some (cpyI (setI m 138 31 (nI sum)) 155 156 0 0 ord.length) := hcp
        refine ⟨_, (by rw [hcp']; rfl), ((Ak.rf m).set _ (by decide)).cpy (sN_in (by omega)), ⟨⟨?_, ?_, ?_, ?_⟩, ?_⟩⟩
        · rw [cpyI_a (by decide), sI_eq]
          rfl
        · intro i hi
          rw [cpyI_a (by decide), sI_na (by decide)]
          exact h.1.2.1 i hi
        · intro x y hx hy
          rw [cpyI_a (by decide), sI_na (by decide)]
          exact h.1.2.2.1 x y hx hy
        · intro p hp
          have hp := Option.some.inj hp
          subst hp
          refine ⟨by show sum ≤ 180; omega, hle, fun i hi => ?_⟩
          rw [cpyI_in (by omega) (by omega), sI_na (by decide)]
          show m.1 155 (0 + (i - 0)) = _
          rw [Nat.zero_add, Nat.sub_zero]
          exact h.1.2.1 i (by omega)
        · rw [cpyI_a (by decide), sI_na (by decide)]
          exact h.2
/-! the tables -/
def cA (r s : Nat → Nat) (x y : Nat) : Nat := sm r s 0 (r (180 + x)) (r (180 + y))
theorem cA_le (hO : KO r s) {x y : Nat} (hx : x < r 8) (hy : y < r 8) : cA r s x y ≤ 30 := sm_le hO (hO.1.2.2.2.2.2.2.2.2.2.2.1 x hx) (hO.1.2.2.2.2.2.2.2.2.2.2.1 y hy)
theorem fc15 (hO : KO r s) {x : Nat} (hx : x < r 8) {k2 : Int32 → Me → Option Me} : ∀ j k n (m : Me), KC m t r s → (∀ i, i < x * 6 + k → (i % 6 < r 8) → m.1 128 i = nI (cA r s (i / 6) (i % 6))) → k + j = r 8 → j < n → ∃ m', fX10_findCalm_15 n k2 (nI x) (nI k) m = k2 (nI (x + 1)) m' ∧ Ak sC m m' ∧ KC m' t r s ∧ ∀ i, i < x * 6 + r 8 → (i % 6 < r 8) → m'.1 128 i = nI (cA r s (i / 6) (i % 6)) := by
  have h8 := hO.1.2.2.2.2.2.2.1
  intro j
  induction j with
  | zero =>
    intro k n m h hT hk hn
    obtain ⟨n, rfl⟩ : ∃ n', n = n' + 1 := ⟨n - 1, by omega⟩
    have e13 := h.2.2.1.2.1.2.2.2.2
    have ek : k = r 8 := by omega
    refine ⟨m, ?_, Ak.rf m, h, fun i hi hq => hT i (by omega) hq⟩
    rw [fX10_findCalm_15]
    simp (disch := omega) only [h.1, e13, cl2_so, cl1_so, ck_tr, zl_0, zl_1, zl_2, zl_3, zl_4, zl_5, zl_6, zl_7, zl_8, zl_9, zl_10, zl_11, zl_12, zl_15, zl_16, zl_20, zl_24, zl_25, zl_30, zl_31, zl_32, zl_33, zl_44, zl_48, zl_50, zl_57, zl_59, zl_60, zl_61, zl_62, zl_63, zl_64, zl_68, zl_97, zl_99, zl_100, zl_104, zl_108, zl_114, zl_120, zl_122, zl_126, zl_132, zl_180, zl_181, zl_186, zl_255, zl_900, zl_930, zl_1000, zl_1000000, nI_add, pk_mul, zs_sub, zs_lt, zs_le, zs_eq, zs_inb, zs_cl, zm_eq, zm_eq2, zm_lt, zm_le, mz_lt, mz_le, mm_eq, zs_bit, zs_or1, zs_div, zs_rem, ck_pos, if_pos, if_neg, true_or, or_true, true_and, and_true, false_or, or_false, false_and, and_false, not_true, not_false_iff, if_true, if_false, eq_self, Bool.false_eq_true, cl2_id, Bool.not_true, Bool.not_false]
  | succ j ih =>
    intro k n m h hT hk hn
    obtain ⟨n, rfl⟩ : ∃ n', n = n' + 1 := ⟨n - 1, by omega⟩
    have e13 := h.2.2.1.2.1.2.2.2.2
    have eb := h.beat (b := k) (by omega)
    have ex := h.beat (b := x) (by omega)
    obtain ⟨m1, e, g1, g2, g3⟩ := h.smear hO (side := 0) (by omega) (hO.1.2.2.2.2.2.2.2.2.2.2.1 x hx) (hO.1.2.2.2.2.2.2.2.2.2.2.1 k (by omega))
    have hA : Ak sC m1 (setI m1 128 (x * 6 + k) (nI (cA r s x k))) := (Ak.rf m1).set _ (sC_in (by omega) _)
    obtain ⟨m2, f1, f2, f3, f4⟩ := ih (k + 1) n _ (g2.ag hO hA.agC) (fun i hi hq => by
      by_cases q : i = x * 6 + k
      · subst q
        have e1 : (x * 6 + k) / 6 = x := by omega
        have e2 : (x * 6 + k) % 6 = k := by omega
        rw [sI_eq, e1, e2]
      · rw [sI_nj q, g3 128 i (by omega)]
        exact hT i (by omega) hq) (by omega) (by omega)
    refine ⟨m2, ?_, (g1.tr hA).tr f2, f3, f4⟩
    rw [fX10_findCalm_15]
    simp (disch := omega) only [h.1, e13, eb, ex, e, cl2_so, cl1_so, ck_tr, zl_0, zl_1, zl_2, zl_3, zl_4, zl_5, zl_6, zl_7, zl_8, zl_9, zl_10, zl_11, zl_12, zl_15, zl_16, zl_20, zl_24, zl_25, zl_30, zl_31, zl_32, zl_33, zl_44, zl_48, zl_50, zl_57, zl_59, zl_60, zl_61, zl_62, zl_63, zl_64, zl_68, zl_97, zl_99, zl_100, zl_104, zl_108, zl_114, zl_120, zl_122, zl_126, zl_132, zl_180, zl_181, zl_186, zl_255, zl_900, zl_930, zl_1000, zl_1000000, nI_add, pk_mul, zs_sub, zs_lt, zs_le, zs_eq, zs_inb, zs_cl, zm_eq, zm_eq2, zm_lt, zm_le, mz_lt, mz_le, mm_eq, zs_bit, zs_or1, zs_div, zs_rem, ck_pos, if_pos, if_neg, true_or, or_true, true_and, and_true, false_or, or_false, false_and, and_false, not_true, not_false_iff, if_true, if_false, eq_self, Bool.false_eq_true, cl2_id, Bool.not_true, Bool.not_false]
    exact f1
theorem fc2 (hO : KO r s) : ∀ j k n (m : Me), KC m t r s → (∀ i, i < k * 6 → (i % 6 < r 8) → m.1 128 i = nI (cA r s (i / 6) (i % 6))) → k + j = r 8 → j < n → ∃ m', fX10_findCalm_2 n (nI k) m = fX1_settle (nI (r 8)) m' ∧ Ak sC m m' ∧ KC m' t r s ∧ ∀ x y, x < r 8 → y < r 8 → m'.1 128 (x * 6 + y) = nI (cA r s x y) := by
  have h8 := hO.1.2.2.2.2.2.2.1
  intro j
  induction j with
  | zero =>
    intro k n m h hT hk hn
    obtain ⟨n, rfl⟩ : ∃ n', n = n' + 1 := ⟨n - 1, by omega⟩
    have e13 := h.2.2.1.2.1.2.2.2.2
    refine ⟨m, ?_, Ak.rf m, h, fun x y hx hy => ?_⟩
    · rw [fX10_findCalm_2, h.1, e13, if_pos ((zs_le (by omega) (by omega)).mpr (by omega))]
      cases fX1_settle (nI (r 8)) m <;> rfl
    · have := hT (x * 6 + y) (by omega) (by omega)
      have e1 : (x * 6 + y) / 6 = x := by omega
      have e2 : (x * 6 + y) % 6 = y := by omega
      rw [e1, e2] at this
      exact this
  | succ j ih =>
    intro k n m h hT hk hn
    obtain ⟨n, rfl⟩ : ∃ n', n = n' + 1 := ⟨n - 1, by omega⟩
    have e13 := h.2.2.1.2.1.2.2.2.2
    obtain ⟨m1, e, g1, g2, g3⟩ := fc15 (t := t) hO (x := k) (by omega) (k2 := fX10_findCalm_2 n) (r 8) 0 FU m h (fun i hi hq => hT i (by omega) hq) (by omega) (FU_pos (by omega))
    obtain ⟨m2, f1, f2, f3, f4⟩ := ih (k + 1) n m1 g2 (fun i hi hq => g3 i (by omega) hq) (by omega) (by omega)
    refine ⟨m2, ?_, g1.tr f2, f3, f4⟩
    rw [fX10_findCalm_2, h.1, e13, if_neg (fun q => by rw [zs_le (by omega) (by omega)] at q; omega)]
    exact e.trans f1
def calR (r s : Nat → Nat) : Option (Nat × List Nat) := cal (r 8) (cA r s) 8 [] 0 0 none
theorem KC.calm (h : KC m t r s) (hO : KO r s) : ∃ m', fX10_findCalm m = some m' ∧ Ak sC m m' ∧ m'.1 127 4 = cLe 181 (calR r s) ∧ ∀ p, calR r s = some p → p.1 ≤ 180 ∧ p.2.length = r 8 ∧ ∀ i, i < r 8 → m'.1 129 i = nI (p.2.getD i 0) := by
  have h8 := hO.1.2.2.2.2.2.2.1
  obtain ⟨m1, e, g1, g2, g3⟩ := fc2 (t := t) hO (r 8) 0 FU m h (fun i hi => by omega) (by omega) (FU_pos (by omega))
  have hA : Ak sC m1 (setI (setI m1 127 3 (nI (r 8))) 127 4 (nI 181)) := ((Ak.rf m1).set _ (sC_in (by omega) _)).set _ (sC_in (by omega) _)
  obtain ⟨m2, f1, f2, f3⟩ := tryO h8 (fun x y hx hy => cA_le hO hx hy) 8 [] 0 0 none (setI (setI m1 127 3 (nI (r 8))) 127 4 (nI 181)) ⟨⟨sI_eq _ _ _ _, fun i hi => by simp at hi, fun x y hx hy => by rw [sI_na (by decide), sI_na (by decide)]; exact g3 x y hx hy, fun p hp => by cases hp⟩, (sI_nj (by decide)).trans (sI_eq _ _ _ _)⟩ (by simp) (by simp; omega) (by simp) (by decide) (fun i hi => by simp at hi)
  refine ⟨m2, ?_, (g1.tr hA).tr f2, f3.1.1, f3.1.2.2.2⟩
  unfold fX10_findCalm
  refine e.trans ?_
  unfold fX1_settle
  have hif : (if (6 : Int32) < nI (r 8) then (6 : Int32) else nI (r 8)) = nI (r 8) := if_neg (fun q => by
    have q' : nI 6 < nI (r 8) := q
    rw [zs_lt (by omega) (by omega)] at q'
    omega)
  rw [hif]
  have f1' : fX1_tryOrders 8 (0 : Int32) (0 : Int32) (0 : Int32) (setI (setI m1 127 3 (nI (r 8))) 127 4 (181 : Int32)) = some m2 := f1
  rw [f1']
  rfl
theorem co15 (hO : KO r s) {x : Nat} (hx : x < r 8) {k2 : Int32 → Me → Option (Int32 × Me)} : ∀ j k n (m : Me), KM m r s → (∀ i, i < x * 6 + k → (i % 6 < r 8) → m.1 157 i = nI (cA r s (i / 6) (i % 6))) → k + j = r 8 → j < n → ∃ m', fX11_calmOf_15 n k2 (nI x) (nI k) m = k2 (nI (x + 1)) m' ∧ Ak sN m m' ∧ KM m' r s ∧ ∀ i, i < x * 6 + r 8 → (i % 6 < r 8) → m'.1 157 i = nI (cA r s (i / 6) (i % 6)) := by
  have h8 := hO.1.2.2.2.2.2.2.1
  intro j
  induction j with
  | zero =>
    intro k n m h hT hk hn
    obtain ⟨n, rfl⟩ : ∃ n', n = n' + 1 := ⟨n - 1, by omega⟩
    have ek : k = r 8 := by omega
    refine ⟨m, ?_, Ak.rf m, h, fun i hi hq => hT i (by omega) hq⟩
    rw [fX11_calmOf_15]
    simp (disch := omega) only [h.2.1 8 (by omega), cl2_so, cl1_so, ck_tr, zl_0, zl_1, zl_2, zl_3, zl_4, zl_5, zl_6, zl_7, zl_8, zl_9, zl_10, zl_11, zl_12, zl_15, zl_16, zl_20, zl_24, zl_25, zl_30, zl_31, zl_32, zl_33, zl_44, zl_48, zl_50, zl_57, zl_59, zl_60, zl_61, zl_62, zl_63, zl_64, zl_68, zl_97, zl_99, zl_100, zl_104, zl_108, zl_114, zl_120, zl_122, zl_126, zl_132, zl_180, zl_181, zl_186, zl_255, zl_900, zl_930, zl_1000, zl_1000000, nI_add, pk_mul, zs_sub, zs_lt, zs_le, zs_eq, zs_inb, zs_cl, zm_eq, zm_eq2, zm_lt, zm_le, mz_lt, mz_le, mm_eq, zs_bit, zs_or1, zs_div, zs_rem, ck_pos, if_pos, if_neg, true_or, or_true, true_and, and_true, false_or, or_false, false_and, and_false, not_true, not_false_iff, if_true, if_false, eq_self, Bool.false_eq_true, cl2_id, Bool.not_true, Bool.not_false]
  | succ j ih =>
    intro k n m h hT hk hn
    obtain ⟨n, rfl⟩ : ∃ n', n = n' + 1 := ⟨n - 1, by omega⟩
    have eb := h.2.1 (180 + k) (by omega)
    have ex := h.2.1 (180 + x) (by omega)
    obtain ⟨m1, e, g1, g2, g3⟩ := h.smear hO (side := 0) (by omega) (hO.1.2.2.2.2.2.2.2.2.2.2.1 x hx) (hO.1.2.2.2.2.2.2.2.2.2.2.1 k (by omega))
    have hA : Ak sN m1 (setI m1 157 (x * 6 + k) (nI (cA r s x k))) := (Ak.rf m1).set _ (sN_in (by omega) _)
    obtain ⟨m2, f1, f2, f3, f4⟩ := ih (k + 1) n _ (g2.ag hA.agN) (fun i hi hq => by
      by_cases q : i = x * 6 + k
      · subst q
        have e1 : (x * 6 + k) / 6 = x := by omega
        have e2 : (x * 6 + k) % 6 = k := by omega
        rw [sI_eq, e1, e2]
      · rw [sI_nj q, g3 157 i (by omega)]
        exact hT i (by omega) hq) (by omega) (by omega)
    refine ⟨m2, ?_, (g1.tr hA).tr f2, f3, f4⟩
    rw [fX11_calmOf_15]
    have e6 : 6 * x = x * 6 := Nat.mul_comm _ _
    simp (disch := omega) only [h.2.1 8 (by omega), eb, ex, e, e6, cl2_so, cl1_so, ck_tr, zl_0, zl_1, zl_2, zl_3, zl_4, zl_5, zl_6, zl_7, zl_8, zl_9, zl_10, zl_11, zl_12, zl_15, zl_16, zl_20, zl_24, zl_25, zl_30, zl_31, zl_32, zl_33, zl_44, zl_48, zl_50, zl_57, zl_59, zl_60, zl_61, zl_62, zl_63, zl_64, zl_68, zl_97, zl_99, zl_100, zl_104, zl_108, zl_114, zl_120, zl_122, zl_126, zl_132, zl_180, zl_181, zl_186, zl_255, zl_900, zl_930, zl_1000, zl_1000000, nI_add, pk_mul, zs_sub, zs_lt, zs_le, zs_eq, zs_inb, zs_cl, zm_eq, zm_eq2, zm_lt, zm_le, mz_lt, mz_le, mm_eq, zs_bit, zs_or1, zs_div, zs_rem, ck_pos, if_pos, if_neg, true_or, or_true, true_and, and_true, false_or, or_false, false_and, and_false, not_true, not_false_iff, if_true, if_false, eq_self, Bool.false_eq_true, cl2_id, Bool.not_true, Bool.not_false]
    exact f1
theorem co2 (hO : KO r s) : ∀ j k n (m : Me), KM m r s → (∀ i, i < k * 6 → (i % 6 < r 8) → m.1 157 i = nI (cA r s (i / 6) (i % 6))) → k + j = r 8 → j < n → ∃ m', fX11_calmOf_2 n (nI k) m = cl1 (fX11_calmFrom 8 (0 : Int32) (0 : Int32) (0 : Int32) (setI m' 138 31 (1000000 : Int32))) (fun m4 => some ((m4.1 138 31), m4)) ∧ Ak sN m m' ∧ KM m' r s ∧ ∀ x y, x < r 8 → y < r 8 → m'.1 157 (x * 6 + y) = nI (cA r s x y) := by
  have h8 := hO.1.2.2.2.2.2.2.1
  intro j
  induction j with
  | zero =>
    intro k n m h hT hk hn
    obtain ⟨n, rfl⟩ : ∃ n', n = n' + 1 := ⟨n - 1, by omega⟩
    refine ⟨m, ?_, Ak.rf m, h, fun x y hx hy => ?_⟩
    · rw [fX11_calmOf_2, h.2.1 8 (by omega), if_pos ((zs_le (by omega) (by omega)).mpr (by omega))]
    · have := hT (x * 6 + y) (by omega) (by omega)
      have e1 : (x * 6 + y) / 6 = x := by omega
      have e2 : (x * 6 + y) % 6 = y := by omega
      rw [e1, e2] at this
      exact this
  | succ j ih =>
    intro k n m h hT hk hn
    obtain ⟨n, rfl⟩ : ∃ n', n = n' + 1 := ⟨n - 1, by omega⟩
    obtain ⟨m1, e, g1, g2, g3⟩ := co15 hO (x := k) (by omega) (k2 := fX11_calmOf_2 n) (r 8) 0 FU m h (fun i hi hq => hT i (by omega) hq) (by omega) (FU_pos (by omega))
    obtain ⟨m2, f1, f2, f3, f4⟩ := ih (k + 1) n m1 g2 (fun i hi hq => g3 i (by omega) hq) (by omega) (by omega)
    refine ⟨m2, ?_, g1.tr f2, f3, f4⟩
    rw [fX11_calmOf_2, h.2.1 8 (by omega), if_neg (fun q => by rw [zs_le (by omega) (by omega)] at q; omega)]
    exact e.trans f1
theorem KM.calm (h : KM m r s) (hO : KO r s) : ∃ m', fX11_calmOf m = some (cLe 1000000 (calR r s), m') ∧ Ak sN m m' ∧ ∀ p, calR r s = some p → ∀ i, i < r 8 → m'.1 156 i = nI (p.2.getD i 0) := by
  have h8 := hO.1.2.2.2.2.2.2.1
  obtain ⟨m1, e, g1, g2, g3⟩ := co2 hO (r 8) 0 FU m h (fun i hi => by omega) (by omega) (FU_pos (by omega))
  have hA : Ak sN m1 (setI m1 138 31 (nI 1000000)) := (Ak.rf m1).set _ (by decide)
  obtain ⟨m2, f1, f2, f3⟩ := calmF h8 (fun x y hx hy => cA_le hO hx hy) 8 [] 0 0 none (setI m1 138 31 (nI 1000000)) ⟨⟨sI_eq _ _ _ _, fun i hi => by simp at hi, fun x y hx hy => by rw [sI_na (by decide)]; exact g3 x y hx hy, fun p hp => by cases hp⟩, (sI_na (by decide)).trans (g2.2.1 8 (by omega))⟩ (by simp) (by simp; omega) (by simp) (by decide) (fun i hi => by simp at hi)
  refine ⟨m2, ?_, (g1.tr hA).tr f2, fun p hp => (f3.1.2.2.2 p hp).2.2⟩
  unfold fX11_calmOf
  refine e.trans ?_
  have f1' : fX11_calmFrom 8 (0 : Int32) (0 : Int32) (0 : Int32) (setI m1 138 31 (1000000 : Int32)) = some m2 := f1
  rw [f1']
  show some (m2.1 138 31, m2) = _
  rw [f3.1.1]
  rfl
theorem calL_some {rec : List Nat → Nat → Nat → Option (Nat × List Nat) → Option (Nat × List Nat)} {ord : List Nat} {used sum : Nat} (hr : ∀ o u q st, st ≠ none → rec o u q st ≠ none) : ∀ j k st, st ≠ none → calL rec A ord used sum k j st ≠ none
  | 0, k, st, h => h
  | j + 1, k, st, h => by
    rw [calL]
    refine calL_some hr j (k + 1) _ ?_
    split
    · exact h
    · exact hr _ _ _ _ h
theorem cal_some : ∀ n ord used sum st, st ≠ none → cal N A n ord used sum st ≠ none
  | 0, ord, used, sum, st, h => h
  | n + 1, ord, used, sum, st, h => by
    rw [cal]
    split
    · split
      · exact calL_some (cal_some n) N 0 st h
      · intro q; cases q
    · exact h
theorem calL_reach {rec : List Nat → Nat → Nat → Option (Nat × List Nat) → Option (Nat × List Nat)} {ord : List Nat} {used sum : Nat} (hr : ∀ o u q st, st ≠ none → rec o u q st ≠ none) (hk : ∀ k q st, k < N → used.testBit k = false → rec (ord ++ [k]) (used ||| 2 ^ k) q st ≠ none) : ∀ j k st, k + j = N → (st ≠ none ∨ ∃ i, k ≤ i ∧ i < k + j ∧ used.testBit i = false) → calL rec A ord used sum k j st ≠ none
  | 0, k, st, _, h => by
    rw [calL]
    rcases h with h | ⟨i, h1, h2, -⟩
    · exact h
    · omega
  | j + 1, k, st, hN, h => by
    rw [calL]
    refine calL_reach hr hk j (k + 1) _ (by omega) ?_
    cases hb : used.testBit k
    · left
      rw [if_neg (by decide)]
      exact hk k _ st (by omega) hb
    · rw [if_pos rfl]
      rcases h with h | ⟨i, h1, h2, h3⟩
      · exact Or.inl h
      · right
        refine ⟨i, ?_, by omega, h3⟩
        rcases Nat.eq_or_lt_of_le h1 with e | e
        · subst e; rw [hb] at h3; cases h3
        · omega
theorem z_ct_or (u k : Nat) : ∀ j a, z_ct (fun i => (u ||| 2 ^ k).testBit i) a j ≤ z_ct (fun i => u.testBit i) a j + (if a ≤ k ∧ k < a + j then 1 else 0)
  | 0, a => by simp [z_ct]
  | j + 1, a => by
    have ih := z_ct_or u k j (a + 1)
    rw [z_ct, z_ct, Nat.testBit_or]
    by_cases ha : a = k
    · subst ha
      rw [if_neg (show ¬ (a + 1 ≤ a ∧ a < a + 1 + j) by omega)] at ih
      rw [if_pos (show a ≤ a ∧ a < a + (j + 1) by omega)]
      generalize z_ct (fun i => (u ||| 2 ^ a).testBit i) (a + 1) j = X at ih ⊢
      generalize z_ct (fun i => u.testBit i) (a + 1) j = Y at ih ⊢
      cases u.testBit a <;> simp <;> omega
    · rw [Nat.testBit_two_pow_of_ne (by omega), Bool.or_false]
      by_cases q : a ≤ k ∧ k < a + (j + 1)
      · rw [if_pos q]
        rw [if_pos (show a + 1 ≤ k ∧ k < a + 1 + j by omega)] at ih
        omega
      · rw [if_neg q]
        rw [if_neg (show ¬ (a + 1 ≤ k ∧ k < a + 1 + j) by omega)] at ih
        omega
theorem z_ct_all {g : Nat → Bool} : ∀ j a, (∀ i, a ≤ i → i < a + j → g i = true) → z_ct g a j = j
  | 0, a, _ => rfl
  | j + 1, a, h => by
    rw [z_ct, h a (by omega) (by omega), z_ct_all j (a + 1) (fun i h1 h2 => h i (by omega) (by omega))]
    simp
    omega
theorem cal_reach : ∀ n ord used sum st, ord.length ≤ N → N < ord.length + n → z_ct (fun i => used.testBit i) 0 N ≤ ord.length → cal N A n ord used sum st ≠ none
  | 0, ord, used, sum, st, h1, h2, _ => by omega
  | n + 1, ord, used, sum, some p, h1, h2, h3 => cal_some _ _ _ _ _ (by intro q; cases q)
  | n + 1, ord, used, sum, none, h1, h2, h3 => by
    rw [cal]
    rw [if_pos (show cLt sum none = true from rfl)]
    split
    · rename_i hl
      refine calL_reach (N := N) (cal_some n) (fun k q st hk hb => cal_reach n (ord ++ [k]) (used ||| 2 ^ k) q st (by simp; omega) (by simp; omega) ?_) N 0 none (by omega) (Or.inr ?_)
      · have := z_ct_or used k N 0
        rw [if_pos (show 0 ≤ k ∧ k < 0 + N by omega)] at this
        rw [List.length_append, List.length_singleton]
        omega
      · refine Classical.byContradiction fun q => ?_
        have e := z_ct_all (g := fun i => used.testBit i) N 0 (fun i a b => by
          cases hb : used.testBit i
          · exact absurd ⟨i, a, b, hb⟩ q
          · rfl)
        omega
    · intro q; cases q
theorem calR_some (r s : Nat → Nat) (h : r 8 ≤ 6) : ∃ p, calR r s = some p := by
  have e : calR r s ≠ none := cal_reach 8 [] 0 0 none (by simp) (by simp; omega) (by
    rw [z_ct_0 _ _ (fun i _ _ => Nat.zero_testBit i)]
    simp)
  cases hc : calR r s with
  | none => exact absurd hc e
  | some p => exact ⟨p, rfl⟩
theorem b_calm (hI : Inv m) (hC : JC m H r s) (hM : JM m H r s) (hO : JO H r s) : Both fX10_calm fX11_calm m := by
  have hle := vb_le H r
  by_cases hv : vb H r = 0
  · obtain ⟨rfl, h0⟩ := vb_out hv
    have hK : KO r s := hO rfl
    obtain ⟨m', e, g1, g2, -⟩ := (hC.kc hI).calm hK
    obtain ⟨p, hp⟩ := calR_some r s hK.1.2.2.2.2.2.2.1
    refine ⟨nI p.1, 0, ?_, fun m1 h1 => ?_⟩
    · unfold fX10_calm
      rw [hp] at g2
      have g2' : m'.1 127 4 = nI p.1 := g2
      simp (disch := omega) only [fX10_wrongBeats_e hC hO, hv, e, g2', cl2_so, cl1_so, ck_tr, zl_0, zl_1, zl_2, zl_3, zl_4, zl_5, zl_6, zl_7, zl_8, zl_9, zl_10, zl_11, zl_12, zl_15, zl_16, zl_20, zl_24, zl_25, zl_30, zl_31, zl_32, zl_33, zl_44, zl_48, zl_50, zl_57, zl_59, zl_60, zl_61, zl_62, zl_63, zl_64, zl_68, zl_97, zl_99, zl_100, zl_104, zl_108, zl_114, zl_120, zl_122, zl_126, zl_132, zl_180, zl_181, zl_186, zl_255, zl_900, zl_930, zl_1000, zl_1000000, nI_add, pk_mul, zs_sub, zs_lt, zs_le, zs_eq, zs_inb, zs_cl, zm_eq, zm_eq2, zm_lt, zm_le, mz_lt, mz_le, mm_eq, zs_bit, zs_or1, zs_div, zs_rem, ck_pos, if_pos, if_neg, true_or, or_true, true_and, and_true, false_or, or_false, false_and, and_false, not_true, not_false_iff, if_true, if_false, eq_self, Bool.false_eq_true, cl2_id, Bool.not_true, Bool.not_false]
      exact ansC_ok _ g1
    · have hM1 := hM.ag (h1.agC.tr (gd_ak m1).agM)
      obtain ⟨m2, e2, f1, -⟩ := hM1.km.calm hK
      rw [hp] at e2
      have e2' : fX11_calmOf (gdM m1) = some (nI p.1, m2) := e2
      unfold fX11_calm fX11_calm_25
      simp (disch := omega) only [gd_e, fX11_beatWhy_e hM1 hO, hv, e2', cl2_so, cl1_so, ck_tr, zl_0, zl_1, zl_2, zl_3, zl_4, zl_5, zl_6, zl_7, zl_8, zl_9, zl_10, zl_11, zl_12, zl_15, zl_16, zl_20, zl_24, zl_25, zl_30, zl_31, zl_32, zl_33, zl_44, zl_48, zl_50, zl_57, zl_59, zl_60, zl_61, zl_62, zl_63, zl_64, zl_68, zl_97, zl_99, zl_100, zl_104, zl_108, zl_114, zl_120, zl_122, zl_126, zl_132, zl_180, zl_181, zl_186, zl_255, zl_900, zl_930, zl_1000, zl_1000000, nI_add, pk_mul, zs_sub, zs_lt, zs_le, zs_eq, zs_inb, zs_cl, zm_eq, zm_eq2, zm_lt, zm_le, mz_lt, mz_le, mm_eq, zs_bit, zs_or1, zs_div, zs_rem, ck_pos, if_pos, if_neg, true_or, or_true, true_and, and_true, false_or, or_false, false_and, and_false, not_true, not_false_iff, if_true, if_false, eq_self, Bool.false_eq_true, cl2_id, Bool.not_true, Bool.not_false]
      exact ansN_ok _ f1
  · refine ⟨-nI 1, vb H r, ?_, fun m1 h1 => ?_⟩
    · unfold fX10_calm
      simp (disch := omega) only [fX10_wrongBeats_e hC hO, cl2_so, cl1_so, ck_tr, zl_0, zl_1, zl_2, zl_3, zl_4, zl_5, zl_6, zl_7, zl_8, zl_9, zl_10, zl_11, zl_12, zl_15, zl_16, zl_20, zl_24, zl_25, zl_30, zl_31, zl_32, zl_33, zl_44, zl_48, zl_50, zl_57, zl_59, zl_60, zl_61, zl_62, zl_63, zl_64, zl_68, zl_97, zl_99, zl_100, zl_104, zl_108, zl_114, zl_120, zl_122, zl_126, zl_132, zl_180, zl_181, zl_186, zl_255, zl_900, zl_930, zl_1000, zl_1000000, nI_add, pk_mul, zs_sub, zs_lt, zs_le, zs_eq, zs_inb, zs_cl, zm_eq, zm_eq2, zm_lt, zm_le, mz_lt, mz_le, mm_eq, zs_bit, zs_or1, zs_div, zs_rem, ck_pos, if_pos, if_neg, true_or, or_true, true_and, and_true, false_or, or_false, false_and, and_false, not_true, not_false_iff, if_true, if_false, eq_self, Bool.false_eq_true, cl2_id, Bool.not_true, Bool.not_false]
      exact ansC_no _ (Ak.rf m)
    · have hM1 := hM.ag (h1.agC.tr (gd_ak m1).agM)
      unfold fX11_calm fX11_calm_25
      simp (disch := omega) only [gd_e, fX11_beatWhy_e hM1 hO, cl2_so, cl1_so, ck_tr, zl_0, zl_1, zl_2, zl_3, zl_4, zl_5, zl_6, zl_7, zl_8, zl_9, zl_10, zl_11, zl_12, zl_15, zl_16, zl_20, zl_24, zl_25, zl_30, zl_31, zl_32, zl_33, zl_44, zl_48, zl_50, zl_57, zl_59, zl_60, zl_61, zl_62, zl_63, zl_64, zl_68, zl_97, zl_99, zl_100, zl_104, zl_108, zl_114, zl_120, zl_122, zl_126, zl_132, zl_180, zl_181, zl_186, zl_255, zl_900, zl_930, zl_1000, zl_1000000, nI_add, pk_mul, zs_sub, zs_lt, zs_le, zs_eq, zs_inb, zs_cl, zm_eq, zm_eq2, zm_lt, zm_le, mz_lt, mz_le, mm_eq, zs_bit, zs_or1, zs_div, zs_rem, ck_pos, if_pos, if_neg, true_or, or_true, true_and, and_true, false_or, or_false, false_and, and_false, not_true, not_false_iff, if_true, if_false, eq_self, Bool.false_eq_true, cl2_id, Bool.not_true, Bool.not_false]
      exact ansM_no _ (gd_ak m1)
theorem b_calmAt (hI : Inv m) (hC : JC m H r s) (hM : JM m H r s) (hO : JO H r s) : Both (fX10_calmAt x1) (fX11_calmAt x1) m := by
  have hle := vb_le H r
  by_cases hv : vb H r = 0
  · obtain ⟨rfl, h0⟩ := vb_out hv
    have hK : KO r s := hO rfl
    have h8 := hK.1.2.2.2.2.2.2.1
    have e13 := (hC.kc hI).2.2.1.2.1.2.2.2.2
    obtain ⟨m', e, g1, g2, g3⟩ := (hC.kc hI).calm hK
    obtain ⟨p, hp⟩ := calR_some r s hK.1.2.2.2.2.2.2.1
    have hwn : ∀ m1 : Me, fX11_within x1 (nI 0) (nI (r 8 - 1)) m1 = some (nI (if vN true (r 8) x1 then 1 else 0), m1) := fun m1 => by
      have := within2 (m := m1) (x := x1) (n := r 8 - 1) (by omega)
      rw [show r 8 - 1 + 1 = r 8 by omega] at this
      exact this
    cases hx : vN true (r 8) x1
    · refine ⟨-nI 1, 1, ?_, fun m1 h1 => ?_⟩
      · unfold fX10_calmAt fX10_calmAt_30
        simp (disch := omega) only [fX10_wrongBeats_e hC hO, hv, e13, vN_lt0, hx, cl2_so, cl1_so, ck_tr, zl_0, zl_1, zl_2, zl_3, zl_4, zl_5, zl_6, zl_7, zl_8, zl_9, zl_10, zl_11, zl_12, zl_15, zl_16, zl_20, zl_24, zl_25, zl_30, zl_31, zl_32, zl_33, zl_44, zl_48, zl_50, zl_57, zl_59, zl_60, zl_61, zl_62, zl_63, zl_64, zl_68, zl_97, zl_99, zl_100, zl_104, zl_108, zl_114, zl_120, zl_122, zl_126, zl_132, zl_180, zl_181, zl_186, zl_255, zl_900, zl_930, zl_1000, zl_1000000, nI_add, pk_mul, zs_sub, zs_lt, zs_le, zs_eq, zs_inb, zs_cl, zm_eq, zm_eq2, zm_lt, zm_le, mz_lt, mz_le, mm_eq, zs_bit, zs_or1, zs_div, zs_rem, ck_pos, if_pos, if_neg, true_or, or_true, true_and, and_true, false_or, or_false, false_and, and_false, not_true, not_false_iff, if_true, if_false, eq_self, Bool.false_eq_true, cl2_id, Bool.not_true, Bool.not_false]
        exact ansC_no _ (Ak.rf m)
      · have hM1 := hM.ag (h1.agC.tr (gd_ak m1).agM)
        have ea : (gdM m1).1 138 14 = nI 1 := hM1.1
        unfold fX11_calmAt
        simp (disch := omega) only [gd_e, ea, hM1.km.2.1 8 (by omega), hwn, hx, cl2_so, cl1_so, ck_tr, zl_0, zl_1, zl_2, zl_3, zl_4, zl_5, zl_6, zl_7, zl_8, zl_9, zl_10, zl_11, zl_12, zl_15, zl_16, zl_20, zl_24, zl_25, zl_30, zl_31, zl_32, zl_33, zl_44, zl_48, zl_50, zl_57, zl_59, zl_60, zl_61, zl_62, zl_63, zl_64, zl_68, zl_97, zl_99, zl_100, zl_104, zl_108, zl_114, zl_120, zl_122, zl_126, zl_132, zl_180, zl_181, zl_186, zl_255, zl_900, zl_930, zl_1000, zl_1000000, nI_add, pk_mul, zs_sub, zs_lt, zs_le, zs_eq, zs_inb, zs_cl, zm_eq, zm_eq2, zm_lt, zm_le, mz_lt, mz_le, mm_eq, zs_bit, zs_or1, zs_div, zs_rem, ck_pos, if_pos, if_neg, true_or, or_true, true_and, and_true, false_or, or_false, false_and, and_false, not_true, not_false_iff, if_true, if_false, eq_self, Bool.false_eq_true, cl2_id, Bool.not_true, Bool.not_false]
        exact ansM_no _ (gd_ak m1)
    · obtain ⟨i, hi, rfl⟩ := vN_in (by omega) hx
      refine ⟨nI (p.2.getD i 0), 0, ?_, fun m1 h1 => ?_⟩
      · unfold fX10_calmAt fX10_calmAt_30
        simp (disch := omega) only [fX10_wrongBeats_e hC hO, hv, e13, e, (g3 p hp).2.2 i hi, cl2_so, cl1_so, ck_tr, zl_0, zl_1, zl_2, zl_3, zl_4, zl_5, zl_6, zl_7, zl_8, zl_9, zl_10, zl_11, zl_12, zl_15, zl_16, zl_20, zl_24, zl_25, zl_30, zl_31, zl_32, zl_33, zl_44, zl_48, zl_50, zl_57, zl_59, zl_60, zl_61, zl_62, zl_63, zl_64, zl_68, zl_97, zl_99, zl_100, zl_104, zl_108, zl_114, zl_120, zl_122, zl_126, zl_132, zl_180, zl_181, zl_186, zl_255, zl_900, zl_930, zl_1000, zl_1000000, nI_add, pk_mul, zs_sub, zs_lt, zs_le, zs_eq, zs_inb, zs_cl, zm_eq, zm_eq2, zm_lt, zm_le, mz_lt, mz_le, mm_eq, zs_bit, zs_or1, zs_div, zs_rem, ck_pos, if_pos, if_neg, true_or, or_true, true_and, and_true, false_or, or_false, false_and, and_false, not_true, not_false_iff, if_true, if_false, eq_self, Bool.false_eq_true, cl2_id, Bool.not_true, Bool.not_false]
        exact ansC_ok _ g1
      · have hM1 := hM.ag (h1.agC.tr (gd_ak m1).agM)
        obtain ⟨m2, e2, f1, f2⟩ := hM1.km.calm hK
        have ea : (gdM m1).1 138 14 = nI 1 := hM1.1
        unfold fX11_calmAt
        simp (disch := omega) only [gd_e, ea, hM1.km.2.1 8 (by omega), hwn, hx, e2, f2 p hp i hi, cl2_so, cl1_so, ck_tr, zl_0, zl_1, zl_2, zl_3, zl_4, zl_5, zl_6, zl_7, zl_8, zl_9, zl_10, zl_11, zl_12, zl_15, zl_16, zl_20, zl_24, zl_25, zl_30, zl_31, zl_32, zl_33, zl_44, zl_48, zl_50, zl_57, zl_59, zl_60, zl_61, zl_62, zl_63, zl_64, zl_68, zl_97, zl_99, zl_100, zl_104, zl_108, zl_114, zl_120, zl_122, zl_126, zl_132, zl_180, zl_181, zl_186, zl_255, zl_900, zl_930, zl_1000, zl_1000000, nI_add, pk_mul, zs_sub, zs_lt, zs_le, zs_eq, zs_inb, zs_cl, zm_eq, zm_eq2, zm_lt, zm_le, mz_lt, mz_le, mm_eq, zs_bit, zs_or1, zs_div, zs_rem, ck_pos, if_pos, if_neg, true_or, or_true, true_and, and_true, false_or, or_false, false_and, and_false, not_true, not_false_iff, if_true, if_false, eq_self, Bool.false_eq_true, cl2_id, Bool.not_true, Bool.not_false]
        exact ansN_ok _ f1
  · refine ⟨-nI 1, vb H r, ?_, fun m1 h1 => ?_⟩
    · unfold fX10_calmAt
      simp (disch := omega) only [fX10_wrongBeats_e hC hO, cl2_so, cl1_so, ck_tr, zl_0, zl_1, zl_2, zl_3, zl_4, zl_5, zl_6, zl_7, zl_8, zl_9, zl_10, zl_11, zl_12, zl_15, zl_16, zl_20, zl_24, zl_25, zl_30, zl_31, zl_32, zl_33, zl_44, zl_48, zl_50, zl_57, zl_59, zl_60, zl_61, zl_62, zl_63, zl_64, zl_68, zl_97, zl_99, zl_100, zl_104, zl_108, zl_114, zl_120, zl_122, zl_126, zl_132, zl_180, zl_181, zl_186, zl_255, zl_900, zl_930, zl_1000, zl_1000000, nI_add, pk_mul, zs_sub, zs_lt, zs_le, zs_eq, zs_inb, zs_cl, zm_eq, zm_eq2, zm_lt, zm_le, mz_lt, mz_le, mm_eq, zs_bit, zs_or1, zs_div, zs_rem, ck_pos, if_pos, if_neg, true_or, or_true, true_and, and_true, false_or, or_false, false_and, and_false, not_true, not_false_iff, if_true, if_false, eq_self, Bool.false_eq_true, cl2_id, Bool.not_true, Bool.not_false]
      exact ansC_no _ (Ak.rf m)
    · have hM1 := hM.ag (h1.agC.tr (gd_ak m1).agM)
      unfold fX11_calmAt
      cases H
      · have ea : (gdM m1).1 138 14 = nI 0 := hM1.1
        simp (disch := omega) only [gd_e, ea, cl2_so, cl1_so, ck_tr, zl_0, zl_1, zl_2, zl_3, zl_4, zl_5, zl_6, zl_7, zl_8, zl_9, zl_10, zl_11, zl_12, zl_15, zl_16, zl_20, zl_24, zl_25, zl_30, zl_31, zl_32, zl_33, zl_44, zl_48, zl_50, zl_57, zl_59, zl_60, zl_61, zl_62, zl_63, zl_64, zl_68, zl_97, zl_99, zl_100, zl_104, zl_108, zl_114, zl_120, zl_122, zl_126, zl_132, zl_180, zl_181, zl_186, zl_255, zl_900, zl_930, zl_1000, zl_1000000, nI_add, pk_mul, zs_sub, zs_lt, zs_le, zs_eq, zs_inb, zs_cl, zm_eq, zm_eq2, zm_lt, zm_le, mz_lt, mz_le, mm_eq, zs_bit, zs_or1, zs_div, zs_rem, ck_pos, if_pos, if_neg, true_or, or_true, true_and, and_true, false_or, or_false, false_and, and_false, not_true, not_false_iff, if_true, if_false, eq_self, Bool.false_eq_true, cl2_id, Bool.not_true, Bool.not_false]
        exact ansM_no 1 (gd_ak m1)
      · have ea : (gdM m1).1 138 14 = nI 1 := hM1.1
        by_cases h8 : r 8 = 0
        · have ev : vb true r = 6 := by unfold vb; rw [if_pos rfl, if_pos h8]
          rw [ev]
          simp (disch := omega) only [gd_e, ea, hM1.km.2.1 8 (by omega), h8, cl2_so, cl1_so, ck_tr, zl_0, zl_1, zl_2, zl_3, zl_4, zl_5, zl_6, zl_7, zl_8, zl_9, zl_10, zl_11, zl_12, zl_15, zl_16, zl_20, zl_24, zl_25, zl_30, zl_31, zl_32, zl_33, zl_44, zl_48, zl_50, zl_57, zl_59, zl_60, zl_61, zl_62, zl_63, zl_64, zl_68, zl_97, zl_99, zl_100, zl_104, zl_108, zl_114, zl_120, zl_122, zl_126, zl_132, zl_180, zl_181, zl_186, zl_255, zl_900, zl_930, zl_1000, zl_1000000, nI_add, pk_mul, zs_sub, zs_lt, zs_le, zs_eq, zs_inb, zs_cl, zm_eq, zm_eq2, zm_lt, zm_le, mz_lt, mz_le, mm_eq, zs_bit, zs_or1, zs_div, zs_rem, ck_pos, if_pos, if_neg, true_or, or_true, true_and, and_true, false_or, or_false, false_and, and_false, not_true, not_false_iff, if_true, if_false, eq_self, Bool.false_eq_true, cl2_id, Bool.not_true, Bool.not_false]
          exact ansM_no 6 (gd_ak m1)
        · exact absurd (by unfold vb; rw [if_pos rfl, if_neg h8]) hv
end C14
