/-! shown, ribs, painted, cost, wish -/
theorem z_ex_iff (g : Nat → Bool) : ∀ j k, z_ex g k j = true ↔ ∃ i, k ≤ i ∧ i < k + j ∧ g i = true
  | 0, k => by
    rw [z_ex]
    constructor
    · intro h; cases h
    · rintro ⟨i, h1, h2, -⟩; omega
  | j + 1, k => by
    rw [z_ex, Bool.or_eq_true, z_ex_iff g j (k + 1)]
    constructor
    · rintro (h | ⟨i, h1, h2, h3⟩)
      · exact ⟨k, by omega, by omega, h⟩
      · exact ⟨i, by omega, by omega, h3⟩
    · rintro ⟨i, h1, h2, h3⟩
      by_cases hi : i = k
      · exact Or.inl (hi ▸ h3)
      · exact Or.inr ⟨i, by omega, by omega, h3⟩
theorem z_ex_congr {g h : Nat → Bool} (j k : Nat) (e : ∀ i, k ≤ i → i < k + j → g i = h i) : z_ex g k j = z_ex h k j := by
  apply Bool.eq_iff_iff.mpr
  rw [z_ex_iff, z_ex_iff]
  constructor
  · rintro ⟨i, h1, h2, h3⟩
    exact ⟨i, h1, h2, by rw [← e i h1 h2]; exact h3⟩
  · rintro ⟨i, h1, h2, h3⟩
    exact ⟨i, h1, h2, by rw [e i h1 h2]; exact h3⟩
theorem mem_getD {L : List Nat} {x : Nat} : x ∈ L ↔ ∃ i, i < L.length ∧ L.getD i 0 = x := by
  rw [List.mem_iff_getElem]
  constructor
  · rintro ⟨i, h, e⟩
    exact ⟨i, h, by rw [List.getD_eq_getElem?_getD, List.getElem?_eq_getElem h]; exact e⟩
  · rintro ⟨i, h, e⟩
    refine ⟨i, h, ?_⟩
    rw [List.getD_eq_getElem?_getD, List.getElem?_eq_getElem h] at e
    exact e
theorem z_ex_mem {L : List Nat} {x : Nat} : z_ex (fun i => decide (L.getD i 0 = x)) 0 L.length = decide (x ∈ L) := by
  apply Bool.eq_iff_iff.mpr
  rw [z_ex_iff, decide_eq_true_eq, mem_getD]
  constructor
  · rintro ⟨i, -, h2, h3⟩
    exact ⟨i, by omega, by simpa using h3⟩
  · rintro ⟨i, h2, h3⟩
    exact ⟨i, by omega, by omega, by simpa using h3⟩
def zo (r : Nat → Nat) (side rib op : Nat) : Nat := z_op r (z_rib r side rib) rib op
theorem z_rib_inv {r : Nat → Nat} {side rib : Nat} (h : rib < r 0) : z_rib r side (z_rib r side rib) = rib := by
  unfold z_rib
  split
  · rfl
  · omega
theorem mem_seg {r : Nat → Nat} {side op br i rib c : Nat} (hw : r 1 ≤ 3) (hop : z_op r i (z_rib r side i) op ≤ r 1) (hc : c < 3) : 3 * rib + c ∈ z_seg r side op br i ↔ br.testBit rib = false ∧ rib = z_rib r side i ∧ c < z_op r i (z_rib r side i) op := by
  unfold z_seg
  cases hb : br.testBit (z_rib r side i)
  · simp only [Bool.false_eq_true, if_false, List.mem_map, List.mem_range]
    constructor
    · rintro ⟨d, h1, h2⟩
      have e : rib = z_rib r side i := by omega
      exact ⟨by rw [e]; exact hb, e, by omega⟩
    · rintro ⟨h1, h2, h3⟩
      exact ⟨c, h3, by rw [h2]⟩
  · simp only [if_true, List.not_mem_nil, false_iff]
    rintro ⟨h1, h2, -⟩
    rw [h2, hb] at h1
    cases h1
theorem mem_from {r : Nat → Nat} {side op br x : Nat} : ∀ n k, x ∈ z_from r side op br n k ↔ ∃ i, k ≤ i ∧ i < k + n ∧ x ∈ z_seg r side op br i
  | 0, k => by
    rw [z_from]
    constructor
    · intro h; cases h
    · rintro ⟨i, h1, h2, -⟩; omega
  | n + 1, k => by
    rw [z_from, List.mem_append, mem_from n (k + 1)]
    constructor
    · rintro (h | ⟨i, h1, h2, h3⟩)
      · exact ⟨k, by omega, by omega, h⟩
      · exact ⟨i, by omega, by omega, h3⟩
    · rintro ⟨i, h1, h2, h3⟩
      by_cases hi : i = k
      · exact Or.inl (hi ▸ h3)
      · exact Or.inr ⟨i, by omega, by omega, h3⟩
theorem mem_show {r : Nat → Nat} (hf : z_fan r) {side op br rib c : Nat} (ho : op ≤ z_mo r) (hr : rib < r 0) (hc : c < 3) : 3 * rib + c ∈ z_show r side op br ↔ br.testBit rib = false ∧ c < zo r side rib op := by
  unfold z_show
  rw [mem_from]
  constructor
  · rintro ⟨i, h1, h2, h3⟩
    rw [mem_seg hf.2.2.2.1 (z_op_le hf ho) hc] at h3
    obtain ⟨a, b, d⟩ := h3
    refine ⟨a, ?_⟩
    unfold zo
    rw [b, z_rib_inv (by omega)]
    exact d
  · rintro ⟨a, b⟩
    refine ⟨z_rib r side rib, by omega, by have := z_rib_lt (side := side) hr; omega, ?_⟩
    rw [mem_seg hf.2.2.2.1 (z_op_le hf ho) hc, z_rib_inv hr]
    exact ⟨a, rfl, b⟩
section C8
variable {m : Me} {H : Bool} {t : Nat} {r s : Nat → Nat} {x1 x2 x3 x4 : Int32}
theorem KC.openCells (h : KC m t r s) (hO : KO r s) {side rib op : Nat} (hs : side ≤ 1) (hr : rib < r 0) (ho : op ≤ z_mo r) : fX2_openCells t (nI side) (nI rib) (nI op) m = some (nI (zo r side rib op), m) := by
  have e := fX2_openCells_e h.2.2.1.1 hO.1.1 (side := side) (k := z_rib r side rib) (op := op) hs (z_rib_lt hr) ho
  rw [z_rib_inv hr] at e
  exact e
theorem zo_le (hO : KO r s) {side rib op : Nat} (ho : op ≤ z_mo r) : zo r side rib op ≤ 3 := Nat.le_trans (z_op_le hO.1.1 ho) hO.1.1.2.2.2.1
theorem sh37 (hO : KO r s) {side rib c : Nat} (hs : side ≤ 1) (hr : rib < r 0) (hc : c < r 1) (h : KC m t r s) : ∀ j k n, k + j = z_mo r + 1 → j < n → fX10_shown_37 n (nI side) (nI rib) (nI c) (nI k) m = fX10_answer (z_oi (z_ff (fun v => decide (c < zo r side rib v)) k j)) m := by
  have hmo := z_mo_le hO.1.1
  have hw := hO.1.1.2.2.2.1
  intro j
  induction j with
  | zero =>
    intro k n hk hn
    obtain ⟨n, rfl⟩ : ∃ n', n = n' + 1 := ⟨n - 1, by omega⟩
    rw [fX10_shown_37, z_ff]
    simp (disch := omega) only [h.1, h.openings hO, cl2_so, cl1_so, ck_tr, zl_0, zl_1, zl_2, zl_3, zl_4, zl_5, zl_6, zl_7, zl_8, zl_9, zl_10, zl_11, zl_12, zl_15, zl_16, zl_20, zl_24, zl_25, zl_30, zl_31, zl_32, zl_33, zl_44, zl_48, zl_50, zl_57, zl_59, zl_60, zl_61, zl_62, zl_63, zl_64, zl_68, zl_97, zl_99, zl_100, zl_104, zl_108, zl_114, zl_120, zl_122, zl_126, zl_132, zl_180, zl_181, zl_186, zl_255, zl_900, zl_930, zl_1000, zl_1000000, nI_add, pk_mul, zs_sub, zs_lt, zs_le, zs_eq, zs_inb, zs_cl, zm_eq, zm_eq2, zm_lt, zm_le, mz_lt, mz_le, mm_eq, zs_bit, zs_or1, zs_div, zs_rem, ck_pos, if_pos, if_neg, true_or, or_true, true_and, and_true, false_or, or_false, false_and, and_false, not_true, not_false_iff, if_true, if_false, eq_self, Bool.false_eq_true, cl2_id, Bool.not_true, Bool.not_false]
    rfl
  | succ j ih =>
    intro k n hk hn
    obtain ⟨n, rfl⟩ : ∃ n', n = n' + 1 := ⟨n - 1, by omega⟩
    rw [fX10_shown_37, z_ff]
    have e := h.openCells hO hs hr (op := k) (by omega)
    have hz := zo_le hO (side := side) (rib := rib) (op := k) (by omega)
    by_cases hq : c < zo r side rib k
    · rw [decide_eq_true hq]
      simp (disch := omega) only [h.1, h.openings hO, e, cl2_so, cl1_so, ck_tr, zl_0, zl_1, zl_2, zl_3, zl_4, zl_5, zl_6, zl_7, zl_8, zl_9, zl_10, zl_11, zl_12, zl_15, zl_16, zl_20, zl_24, zl_25, zl_30, zl_31, zl_32, zl_33, zl_44, zl_48, zl_50, zl_57, zl_59, zl_60, zl_61, zl_62, zl_63, zl_64, zl_68, zl_97, zl_99, zl_100, zl_104, zl_108, zl_114, zl_120, zl_122, zl_126, zl_132, zl_180, zl_181, zl_186, zl_255, zl_900, zl_930, zl_1000, zl_1000000, nI_add, pk_mul, zs_sub, zs_lt, zs_le, zs_eq, zs_inb, zs_cl, zm_eq, zm_eq2, zm_lt, zm_le, mz_lt, mz_le, mm_eq, zs_bit, zs_or1, zs_div, zs_rem, ck_pos, if_pos, if_neg, true_or, or_true, true_and, and_true, false_or, or_false, false_and, and_false, not_true, not_false_iff, if_true, if_false, eq_self, Bool.false_eq_true, cl2_id, Bool.not_true, Bool.not_false]
      rfl
    · rw [decide_eq_false hq]
      simp (disch := omega) only [h.1, h.openings hO, e, cl2_so, cl1_so, ck_tr, zl_0, zl_1, zl_2, zl_3, zl_4, zl_5, zl_6, zl_7, zl_8, zl_9, zl_10, zl_11, zl_12, zl_15, zl_16, zl_20, zl_24, zl_25, zl_30, zl_31, zl_32, zl_33, zl_44, zl_48, zl_50, zl_57, zl_59, zl_60, zl_61, zl_62, zl_63, zl_64, zl_68, zl_97, zl_99, zl_100, zl_104, zl_108, zl_114, zl_120, zl_122, zl_126, zl_132, zl_180, zl_181, zl_186, zl_255, zl_900, zl_930, zl_1000, zl_1000000, nI_add, pk_mul, zs_sub, zs_lt, zs_le, zs_eq, zs_inb, zs_cl, zm_eq, zm_eq2, zm_lt, zm_le, mz_lt, mz_le, mm_eq, zs_bit, zs_or1, zs_div, zs_rem, ck_pos, if_pos, if_neg, true_or, or_true, true_and, and_true, false_or, or_false, false_and, and_false, not_true, not_false_iff, if_true, if_false, eq_self, Bool.false_eq_true, cl2_id, Bool.not_true, Bool.not_false]
      exact ih (k + 1) n (by omega) (by omega)
theorem sh47 {L : List Nat} (hL : L.length ≤ 30) (hl : ML146 m L) (hlt : ∀ c ∈ L, c < 30) {k23 : Int32 → Int32 → Int32 → Int32 → Me → Option (Int32 × Me)} {rib c v : Nat} (hr : rib < 10) (hc : c < 3) : ∀ j k n, k + j = L.length → j < n → fX11_shown_47 n k23 x1 (nI rib) (nI c) (nI v) (nI L.length) (nI k) m = if z_ex (fun i => decide (L.getD i 0 = 3 * rib + c)) k j then some (nI v, m) else k23 x1 (nI rib) (nI c) (nI (v + 1)) m := by
  intro j
  induction j with
  | zero =>
    intro k n hk hn
    obtain ⟨n, rfl⟩ : ∃ n', n = n' + 1 := ⟨n - 1, by omega⟩
    rw [fX11_shown_47, z_ex]
    simp (disch := omega) only [cl2_so, cl1_so, ck_tr, zl_0, zl_1, zl_2, zl_3, zl_4, zl_5, zl_6, zl_7, zl_8, zl_9, zl_10, zl_11, zl_12, zl_15, zl_16, zl_20, zl_24, zl_25, zl_30, zl_31, zl_32, zl_33, zl_44, zl_48, zl_50, zl_57, zl_59, zl_60, zl_61, zl_62, zl_63, zl_64, zl_68, zl_97, zl_99, zl_100, zl_104, zl_108, zl_114, zl_120, zl_122, zl_126, zl_132, zl_180, zl_181, zl_186, zl_255, zl_900, zl_930, zl_1000, zl_1000000, nI_add, pk_mul, zs_sub, zs_lt, zs_le, zs_eq, zs_inb, zs_cl, zm_eq, zm_eq2, zm_lt, zm_le, mz_lt, mz_le, mm_eq, zs_bit, zs_or1, zs_div, zs_rem, ck_pos, if_pos, if_neg, true_or, or_true, true_and, and_true, false_or, or_false, false_and, and_false, not_true, not_false_iff, if_true, if_false, eq_self, Bool.false_eq_true, cl2_id, Bool.not_true, Bool.not_false]
  | succ j ih =>
    intro k n hk hn
    obtain ⟨n, rfl⟩ : ∃ n', n = n' + 1 := ⟨n - 1, by omega⟩
    rw [fX11_shown_47, z_ex]
    have e := hl k (by omega)
    have hb := hlt _ (getD_mem0 (show k < L.length by omega))
    by_cases hq : L.getD k 0 = 3 * rib + c
    · rw [decide_eq_true hq, Bool.true_or]
      simp (disch := omega) only [e, hq, cl2_so, cl1_so, ck_tr, zl_0, zl_1, zl_2, zl_3, zl_4, zl_5, zl_6, zl_7, zl_8, zl_9, zl_10, zl_11, zl_12, zl_15, zl_16, zl_20, zl_24, zl_25, zl_30, zl_31, zl_32, zl_33, zl_44, zl_48, zl_50, zl_57, zl_59, zl_60, zl_61, zl_62, zl_63, zl_64, zl_68, zl_97, zl_99, zl_100, zl_104, zl_108, zl_114, zl_120, zl_122, zl_126, zl_132, zl_180, zl_181, zl_186, zl_255, zl_900, zl_930, zl_1000, zl_1000000, nI_add, pk_mul, zs_sub, zs_lt, zs_le, zs_eq, zs_inb, zs_cl, zm_eq, zm_eq2, zm_lt, zm_le, mz_lt, mz_le, mm_eq, zs_bit, zs_or1, zs_div, zs_rem, ck_pos, if_pos, if_neg, true_or, or_true, true_and, and_true, false_or, or_false, false_and, and_false, not_true, not_false_iff, if_true, if_false, eq_self, Bool.false_eq_true, cl2_id, Bool.not_true, Bool.not_false]
    · rw [decide_eq_false hq, Bool.false_or]
      simp (disch := omega) only [e, hq, cl2_so, cl1_so, ck_tr, zl_0, zl_1, zl_2, zl_3, zl_4, zl_5, zl_6, zl_7, zl_8, zl_9, zl_10, zl_11, zl_12, zl_15, zl_16, zl_20, zl_24, zl_25, zl_30, zl_31, zl_32, zl_33, zl_44, zl_48, zl_50, zl_57, zl_59, zl_60, zl_61, zl_62, zl_63, zl_64, zl_68, zl_97, zl_99, zl_100, zl_104, zl_108, zl_114, zl_120, zl_122, zl_126, zl_132, zl_180, zl_181, zl_186, zl_255, zl_900, zl_930, zl_1000, zl_1000000, nI_add, pk_mul, zs_sub, zs_lt, zs_le, zs_eq, zs_inb, zs_cl, zm_eq, zm_eq2, zm_lt, zm_le, mz_lt, mz_le, mm_eq, zs_bit, zs_or1, zs_div, zs_rem, ck_pos, if_pos, if_neg, true_or, or_true, true_and, and_true, false_or, or_false, false_and, and_false, not_true, not_false_iff, if_true, if_false, eq_self, Bool.false_eq_true, cl2_id, Bool.not_true, Bool.not_false]
      exact ih (k + 1) n (by omega) (by omega)
theorem sh23 (hO : KO r s) {side rib c : Nat} (hs : side ≤ 1) (hr : rib < r 0) (hc : c < r 1) : ∀ j k n (m : Me), KM m r s → k + j = z_mo r + 1 → j < n → ∃ m', fX11_shown_23 n (nI side) (nI rib) (nI c) (nI k) m = some (z_oi (z_ff (fun v => decide (3 * rib + c ∈ z_show r side v (s 60))) k j), m') ∧ Ak sN m m' := by
  have hmo := z_mo_le hO.1.1
  have hw := hO.1.1.2.2.2.1
  have h10 := hO.1.1.2.1
  intro j
  induction j with
  | zero =>
    intro k n m h hk hn
    obtain ⟨n, rfl⟩ : ∃ n', n = n' + 1 := ⟨n - 1, by omega⟩
    refine ⟨m, ?_, Ak.rf m⟩
    rw [fX11_shown_23, z_ff]
    simp (disch := omega) only [h.mostOpen hO, cl2_so, cl1_so, ck_tr, zl_0, zl_1, zl_2, zl_3, zl_4, zl_5, zl_6, zl_7, zl_8, zl_9, zl_10, zl_11, zl_12, zl_15, zl_16, zl_20, zl_24, zl_25, zl_30, zl_31, zl_32, zl_33, zl_44, zl_48, zl_50, zl_57, zl_59, zl_60, zl_61, zl_62, zl_63, zl_64, zl_68, zl_97, zl_99, zl_100, zl_104, zl_108, zl_114, zl_120, zl_122, zl_126, zl_132, zl_180, zl_181, zl_186, zl_255, zl_900, zl_930, zl_1000, zl_1000000, nI_add, pk_mul, zs_sub, zs_lt, zs_le, zs_eq, zs_inb, zs_cl, zm_eq, zm_eq2, zm_lt, zm_le, mz_lt, mz_le, mm_eq, zs_bit, zs_or1, zs_div, zs_rem, ck_pos, if_pos, if_neg, true_or, or_true, true_and, and_true, false_or, or_false, false_and, and_false, not_true, not_false_iff, if_true, if_false, eq_self, Bool.false_eq_true, cl2_id, Bool.not_true, Bool.not_false]
    rfl
  | succ j ih =>
    intro k n m h hk hn
    obtain ⟨n, rfl⟩ : ∃ n', n = n' + 1 := ⟨n - 1, by omega⟩
    have hA := ak_146 (m := m) (z_show r side k (s 60))
    have hl30 := z_show_len hO.1.1 (side := side) (op := k) (br := s 60) (by omega)
    have e := sh47 (x1 := nI side) (m := wl m 147 0 (z_show r side k (s 60))) hl30 (ML_wl _) (z_show_lt hO.1.1 (by omega)) (k23 := fX11_shown_23 n) (rib := rib) (c := c) (v := k) (by omega) (by omega) (z_show r side k (s 60)).length 0 FU (by omega) (FU_pos (by omega))
    rw [z_ex_mem] at e
    rw [z_ff]
    by_cases hq : 3 * rib + c ∈ z_show r side k (s 60)
    · refine ⟨_, ?_, hA⟩
      rw [fX11_shown_23]
      rw [decide_eq_true hq] at e ⊢
      simp (disch := omega) only [h.mostOpen hO, h.layNow hO (side := side) (op := k) hs (by omega), cl2_so, cl1_so, ck_tr, zl_0, zl_1, zl_2, zl_3, zl_4, zl_5, zl_6, zl_7, zl_8, zl_9, zl_10, zl_11, zl_12, zl_15, zl_16, zl_20, zl_24, zl_25, zl_30, zl_31, zl_32, zl_33, zl_44, zl_48, zl_50, zl_57, zl_59, zl_60, zl_61, zl_62, zl_63, zl_64, zl_68, zl_97, zl_99, zl_100, zl_104, zl_108, zl_114, zl_120, zl_122, zl_126, zl_132, zl_180, zl_181, zl_186, zl_255, zl_900, zl_930, zl_1000, zl_1000000, nI_add, pk_mul, zs_sub, zs_lt, zs_le, zs_eq, zs_inb, zs_cl, zm_eq, zm_eq2, zm_lt, zm_le, mz_lt, mz_le, mm_eq, zs_bit, zs_or1, zs_div, zs_rem, ck_pos, if_pos, if_neg, true_or, or_true, true_and, and_true, false_or, or_false, false_and, and_false, not_true, not_false_iff, if_true, if_false, eq_self, Bool.false_eq_true, cl2_id, Bool.not_true, Bool.not_false]
      rw [e]
      rfl
    · obtain ⟨m2, f1, f2⟩ := ih (k + 1) n _ (h.ag hA.agN) (by omega) (by omega)
      refine ⟨m2, ?_, hA.tr f2⟩
      rw [fX11_shown_23]
      rw [decide_eq_false hq] at e ⊢
      simp (disch := omega) only [h.mostOpen hO, h.layNow hO (side := side) (op := k) hs (by omega), cl2_so, cl1_so, ck_tr, zl_0, zl_1, zl_2, zl_3, zl_4, zl_5, zl_6, zl_7, zl_8, zl_9, zl_10, zl_11, zl_12, zl_15, zl_16, zl_20, zl_24, zl_25, zl_30, zl_31, zl_32, zl_33, zl_44, zl_48, zl_50, zl_57, zl_59, zl_60, zl_61, zl_62, zl_63, zl_64, zl_68, zl_97, zl_99, zl_100, zl_104, zl_108, zl_114, zl_120, zl_122, zl_126, zl_132, zl_180, zl_181, zl_186, zl_255, zl_900, zl_930, zl_1000, zl_1000000, nI_add, pk_mul, zs_sub, zs_lt, zs_le, zs_eq, zs_inb, zs_cl, zm_eq, zm_eq2, zm_lt, zm_le, mz_lt, mz_le, mm_eq, zs_bit, zs_or1, zs_div, zs_rem, ck_pos, if_pos, if_neg, true_or, or_true, true_and, and_true, false_or, or_false, false_and, and_false, not_true, not_false_iff, if_true, if_false, eq_self, Bool.false_eq_true, cl2_id, Bool.not_true, Bool.not_false]
      rw [e]
      exact f1
theorem b_shown (hI : Inv m) (hC : JC m H r s) (hM : JM m H r s) (hO : JO H r s) : Both (fX10_shown x1 x2 x3) (fX11_shown x1 x2 x3) m := by
  cases hv : vc H r x1 x2 x3
  · refine ⟨-nI 1, 1, ?_, fun m1 h1 => ?_⟩
    · unfold fX10_shown
      simp (disch := omega) only [fX10_noCell_e hC, hv, cl2_so, cl1_so, ck_tr, zl_0, zl_1, zl_2, zl_3, zl_4, zl_5, zl_6, zl_7, zl_8, zl_9, zl_10, zl_11, zl_12, zl_15, zl_16, zl_20, zl_24, zl_25, zl_30, zl_31, zl_32, zl_33, zl_44, zl_48, zl_50, zl_57, zl_59, zl_60, zl_61, zl_62, zl_63, zl_64, zl_68, zl_97, zl_99, zl_100, zl_104, zl_108, zl_114, zl_120, zl_122, zl_126, zl_132, zl_180, zl_181, zl_186, zl_255, zl_900, zl_930, zl_1000, zl_1000000, nI_add, pk_mul, zs_sub, zs_lt, zs_le, zs_eq, zs_inb, zs_cl, zm_eq, zm_eq2, zm_lt, zm_le, mz_lt, mz_le, mm_eq, zs_bit, zs_or1, zs_div, zs_rem, ck_pos, if_pos, if_neg, true_or, or_true, true_and, and_true, false_or, or_false, false_and, and_false, not_true, not_false_iff, if_true, if_false, eq_self, Bool.false_eq_true, cl2_id, Bool.not_true, Bool.not_false]
      exact ansC_no 1 (Ak.rf m)
    · have hM1 := hM.ag (h1.agC.tr (gd_ak m1).agM)
      unfold fX11_shown
      simp (disch := omega) only [gd_e, fX11_isCell_e hM1 hO, hv, cl2_so, cl1_so, ck_tr, zl_0, zl_1, zl_2, zl_3, zl_4, zl_5, zl_6, zl_7, zl_8, zl_9, zl_10, zl_11, zl_12, zl_15, zl_16, zl_20, zl_24, zl_25, zl_30, zl_31, zl_32, zl_33, zl_44, zl_48, zl_50, zl_57, zl_59, zl_60, zl_61, zl_62, zl_63, zl_64, zl_68, zl_97, zl_99, zl_100, zl_104, zl_108, zl_114, zl_120, zl_122, zl_126, zl_132, zl_180, zl_181, zl_186, zl_255, zl_900, zl_930, zl_1000, zl_1000000, nI_add, pk_mul, zs_sub, zs_lt, zs_le, zs_eq, zs_inb, zs_cl, zm_eq, zm_eq2, zm_lt, zm_le, mz_lt, mz_le, mm_eq, zs_bit, zs_or1, zs_div, zs_rem, ck_pos, if_pos, if_neg, true_or, or_true, true_and, and_true, false_or, or_false, false_and, and_false, not_true, not_false_iff, if_true, if_false, eq_self, Bool.false_eq_true, cl2_id, Bool.not_true, Bool.not_false]
      exact ansM_no 1 (gd_ak m1)
  · obtain ⟨rfl, side, rib, c, a, b, d, rfl, rfl, rfl⟩ := vc_out hO hv
    have hK : KO r s := hO rfl
    obtain ⟨f0, f1, f2, f3, f4⟩ := hK.1.1
    have hmo := z_mo_le hK.1.1
    have el := fX5_lacksRib_e (k := rib) (hC.2 rfl).2.2.1 hK.s60 (by omega)
    have hgg : ∀ (b : Bool), (s 60).testBit rib = b → z_ff (fun v => decide (3 * rib + c ∈ z_show r side v (s 60))) 0 (z_mo r + 1) = if b then none else z_ff (fun v => decide (c < zo r side rib v)) 0 (z_mo r + 1) := by
      intro b hb
      cases b
      · rw [if_neg (by decide)]
        refine z_ff_congr _ _ (fun v _ hv => ?_)
        apply decide_eq_decide.mpr
        rw [mem_show hK.1.1 (by omega) (by omega) (by omega), hb]
        simp
      · rw [if_pos rfl]
        refine z_ff_0 _ _ (fun v _ hv => ?_)
        apply decide_eq_false
        rw [mem_show hK.1.1 (by omega) (by omega) (by omega), hb]
        simp
    have hM2 : ∀ m1, Ak sC m m1 → AnsM (fX11_shown (nI side) (nI rib) (nI c) m1) (z_oi (z_ff (fun v => decide (3 * rib + c ∈ z_show r side v (s 60))) 0 (z_mo r + 1))) 0 m1 := by
      intro m1 h1
      have hM1 := hM.ag (h1.agC.tr (gd_ak m1).agM)
      obtain ⟨m2, e2, g2⟩ := sh23 hK a b d (z_mo r + 1) 0 FU _ hM1.km (by omega) (FU_pos (by omega))
      unfold fX11_shown
      simp (disch := omega) only [gd_e, fX11_isCell_e hM1 hO, hv, e2, cl2_so, cl1_so, ck_tr, zl_0, zl_1, zl_2, zl_3, zl_4, zl_5, zl_6, zl_7, zl_8, zl_9, zl_10, zl_11, zl_12, zl_15, zl_16, zl_20, zl_24, zl_25, zl_30, zl_31, zl_32, zl_33, zl_44, zl_48, zl_50, zl_57, zl_59, zl_60, zl_61, zl_62, zl_63, zl_64, zl_68, zl_97, zl_99, zl_100, zl_104, zl_108, zl_114, zl_120, zl_122, zl_126, zl_132, zl_180, zl_181, zl_186, zl_255, zl_900, zl_930, zl_1000, zl_1000000, nI_add, pk_mul, zs_sub, zs_lt, zs_le, zs_eq, zs_inb, zs_cl, zm_eq, zm_eq2, zm_lt, zm_le, mz_lt, mz_le, mm_eq, zs_bit, zs_or1, zs_div, zs_rem, ck_pos, if_pos, if_neg, true_or, or_true, true_and, and_true, false_or, or_false, false_and, and_false, not_true, not_false_iff, if_true, if_false, eq_self, Bool.false_eq_true, cl2_id, Bool.not_true, Bool.not_false]
      exact ansN_ok _ g2
    cases hb : (s 60).testBit rib
    · refine ⟨z_oi (z_ff (fun v => decide (c < zo r side rib v)) 0 (z_mo r + 1)), 0, ?_, fun m1 h1 => ?_⟩
      · unfold fX10_shown
        simp (disch := omega) only [fX10_noCell_e hC, hv, el, hb, cl2_so, cl1_so, ck_tr, zl_0, zl_1, zl_2, zl_3, zl_4, zl_5, zl_6, zl_7, zl_8, zl_9, zl_10, zl_11, zl_12, zl_15, zl_16, zl_20, zl_24, zl_25, zl_30, zl_31, zl_32, zl_33, zl_44, zl_48, zl_50, zl_57, zl_59, zl_60, zl_61, zl_62, zl_63, zl_64, zl_68, zl_97, zl_99, zl_100, zl_104, zl_108, zl_114, zl_120, zl_122, zl_126, zl_132, zl_180, zl_181, zl_186, zl_255, zl_900, zl_930, zl_1000, zl_1000000, nI_add, pk_mul, zs_sub, zs_lt, zs_le, zs_eq, zs_inb, zs_cl, zm_eq, zm_eq2, zm_lt, zm_le, mz_lt, mz_le, mm_eq, zs_bit, zs_or1, zs_div, zs_rem, ck_pos, if_pos, if_neg, true_or, or_true, true_and, and_true, false_or, or_false, false_and, and_false, not_true, not_false_iff, if_true, if_false, eq_self, Bool.false_eq_true, cl2_id, Bool.not_true, Bool.not_false]
        rw [sh37 hK a b d (hC.kc hI) (z_mo r + 1) 0 FU (by omega) (FU_pos (by omega))]
        exact ansC_ok _ (Ak.rf m)
      · have := hM2 m1 h1
        rw [hgg _ hb] at this
        exact this
    · refine ⟨-nI 2, 0, ?_, fun m1 h1 => ?_⟩
      · unfold fX10_shown
        simp (disch := omega) only [fX10_noCell_e hC, hv, el, hb, cl2_so, cl1_so, ck_tr, zl_0, zl_1, zl_2, zl_3, zl_4, zl_5, zl_6, zl_7, zl_8, zl_9, zl_10, zl_11, zl_12, zl_15, zl_16, zl_20, zl_24, zl_25, zl_30, zl_31, zl_32, zl_33, zl_44, zl_48, zl_50, zl_57, zl_59, zl_60, zl_61, zl_62, zl_63, zl_64, zl_68, zl_97, zl_99, zl_100, zl_104, zl_108, zl_114, zl_120, zl_122, zl_126, zl_132, zl_180, zl_181, zl_186, zl_255, zl_900, zl_930, zl_1000, zl_1000000, nI_add, pk_mul, zs_sub, zs_lt, zs_le, zs_eq, zs_inb, zs_cl, zm_eq, zm_eq2, zm_lt, zm_le, mz_lt, mz_le, mm_eq, zs_bit, zs_or1, zs_div, zs_rem, ck_pos, if_pos, if_neg, true_or, or_true, true_and, and_true, false_or, or_false, false_and, and_false, not_true, not_false_iff, if_true, if_false, eq_self, Bool.false_eq_true, cl2_id, Bool.not_true, Bool.not_false]
        exact ansC_ok _ (Ak.rf m)
      · have := hM2 m1 h1
        rw [hgg _ hb] at this
        exact this
/-! ribs -/
theorem z_ct_list (p : Nat → Bool) : ∀ (L : List Nat), z_ct (fun i => p (L.getD i 0)) 0 L.length = L.countP p := by
  have aux : ∀ (L A : List Nat), z_ct (fun i => p ((A ++ L).getD i 0)) A.length L.length = L.countP p := by
    intro L
    induction L with
    | nil => intro A; rfl
    | cons x L ih =>
      intro A
      have e := ih (A ++ [x])
      rw [List.length_append, List.append_assoc] at e
      rw [List.length_cons, z_ct, List.countP_cons]
      have e2 : (A ++ x :: L).getD A.length 0 = x := by simp [List.getD_eq_getElem?_getD]
      simp only [e2]
      have e3 : z_ct (fun i => p ((A ++ x :: L).getD i 0)) (A.length + 1) L.length = L.countP p := e
      rw [e3]
      omega
  intro L
  exact aux L []
theorem countP_seg {rib n w : Nat} (hw : 1 ≤ w ∧ w ≤ 3) (hn : n ≤ w) : ((List.range n).map (fun c => 3 * rib + c)).countP (fun x => decide (x % 3 = w - 1)) = if n = w then 1 else 0 := by
  have h : ∀ c, (3 * rib + c) % 3 = c % 3 := fun c => by omega
  rw [List.countP_map]
  have e : ((fun x => decide (x % 3 = w - 1)) ∘ fun c => 3 * rib + c) = fun c => decide (c % 3 = w - 1) := by
    funext c
    simp [Function.comp, h]
  rw [e]
  have h1 : n = 0 ∨ n = 1 ∨ n = 2 ∨ n = 3 := by omega
  have h2 : w = 1 ∨ w = 2 ∨ w = 3 := by omega
  rcases h1 with rfl | rfl | rfl | rfl <;> rcases h2 with rfl | rfl | rfl <;> first | rfl | omega
def zrg (r : Nat → Nat) (side op br rib : Nat) : Bool := !br.testBit rib && decide (zo r side rib op = r 1)
theorem countP_from {r : Nat → Nat} (hf : z_fan r) {side op br : Nat} (ho : op ≤ z_mo r) : ∀ n k, k + n ≤ r 0 → (z_from r side op br n k).countP (fun x => decide (x % 3 = r 1 - 1)) = z_ct (fun i => zrg r side op br (z_rib r side i)) k n
  | 0, k, _ => rfl
  | n + 1, k, hk => by
    rw [z_from, List.countP_append, countP_from hf ho n (k + 1) (by omega), z_ct]
    congr 1
    unfold z_seg zrg zo
    rw [z_rib_inv (by omega)]
    cases hb : br.testBit (z_rib r side k)
    · simp only [Bool.false_eq_true, if_false]
      rw [countP_seg ⟨hf.2.2.1, hf.2.2.2.1⟩ (z_op_le hf ho)]
      simp
    · rfl
theorem z_ct_snoc (g : Nat → Bool) : ∀ j k, z_ct g k (j + 1) = z_ct g k j + if g (k + j) then 1 else 0 := by
  intro j k
  rw [z_ct_app, z_ct]
  rfl
theorem z_ct_rev (g : Nat → Bool) : ∀ n N, n ≤ N → z_ct (fun i => g (N - 1 - i)) (N - n) n = z_ct g 0 n
  | 0, N, _ => rfl
  | n + 1, N, h => by
    rw [z_ct, z_ct_snoc]
    have e := z_ct_rev g n N (by omega)
    have e2 : N - (n + 1) + 1 = N - n := by omega
    rw [e2, e, Nat.zero_add]
    have e3 : N - 1 - (N - (n + 1)) = n := by omega
    rw [e3]
    omega
theorem ribs_ct {r : Nat → Nat} (hf : z_fan r) {side op br : Nat} (hs : side ≤ 1) (ho : op ≤ z_mo r) : z_ct (fun i => decide ((z_show r side op br).getD i 0 % 3 = r 1 - 1)) 0 (z_show r side op br).length = z_ct (zrg r side op br) 0 (r 0) := by
  rw [z_ct_list (fun x => decide (x % 3 = r 1 - 1))]
  unfold z_show
  rw [countP_from hf ho (r 0) 0 (by omega)]
  rcases Nat.eq_zero_or_pos side with rfl | h
  · rfl
  · have h1 : side = 1 := by omega
    subst h1
    have e := z_ct_rev (zrg r 1 op br) (r 0) (r 0) (by omega)
    rw [Nat.sub_self] at e
    rw [← e]
    rfl
theorem rb23 (hO : KO r s) {side op : Nat} (hs : side ≤ 1) (ho : op ≤ z_mo r) (h : KC m t r s) : ∀ j k n q, k + j = r 0 → j < n → q ≤ k → fX10_ribs_23 n (nI side) (nI op) (nI q) (nI k) m = fX10_answer (nI (q + z_ct (zrg r side op (s 60)) k j)) m := by
  obtain ⟨f0, f1, f2, f3, f4⟩ := hO.1.1
  have e0 := h.2.2.1.1.1
  have e1 := h.2.2.1.1.2.1
  intro j
  induction j with
  | zero =>
    intro k n q hk hn hq
    obtain ⟨n, rfl⟩ : ∃ n', n = n' + 1 := ⟨n - 1, by omega⟩
    rw [fX10_ribs_23, z_ct]
    simp (disch := omega) only [h.1, e0, Nat.add_zero, cl2_so, cl1_so, ck_tr, zl_0, zl_1, zl_2, zl_3, zl_4, zl_5, zl_6, zl_7, zl_8, zl_9, zl_10, zl_11, zl_12, zl_15, zl_16, zl_20, zl_24, zl_25, zl_30, zl_31, zl_32, zl_33, zl_44, zl_48, zl_50, zl_57, zl_59, zl_60, zl_61, zl_62, zl_63, zl_64, zl_68, zl_97, zl_99, zl_100, zl_104, zl_108, zl_114, zl_120, zl_122, zl_126, zl_132, zl_180, zl_181, zl_186, zl_255, zl_900, zl_930, zl_1000, zl_1000000, nI_add, pk_mul, zs_sub, zs_lt, zs_le, zs_eq, zs_inb, zs_cl, zm_eq, zm_eq2, zm_lt, zm_le, mz_lt, mz_le, mm_eq, zs_bit, zs_or1, zs_div, zs_rem, ck_pos, if_pos, if_neg, true_or, or_true, true_and, and_true, false_or, or_false, false_and, and_false, not_true, not_false_iff, if_true, if_false, eq_self, Bool.false_eq_true, cl2_id, Bool.not_true, Bool.not_false]
  | succ j ih =>
    intro k n q hk hn hq
    obtain ⟨n, rfl⟩ : ∃ n', n = n' + 1 := ⟨n - 1, by omega⟩
    rw [fX10_ribs_23, z_ct]
    have el := fX5_lacksRib_e (k := k) h.2.2.2.1.2.1 hO.s60 (by omega)
    have e := h.openCells hO hs (rib := k) (by omega) ho
    have hz := zo_le hO (side := side) (rib := k) ho
    unfold zrg fX10_ribs_71
    cases hb : (s 60).testBit k
    · by_cases hq2 : zo r side k op = r 1
      · rw [decide_eq_true hq2]
        simp (disch := omega) only [h.1, e0, e1, el, hb, e, hq2, Bool.not_false, Bool.and_true, cl2_so, cl1_so, ck_tr, zl_0, zl_1, zl_2, zl_3, zl_4, zl_5, zl_6, zl_7, zl_8, zl_9, zl_10, zl_11, zl_12, zl_15, zl_16, zl_20, zl_24, zl_25, zl_30, zl_31, zl_32, zl_33, zl_44, zl_48, zl_50, zl_57, zl_59, zl_60, zl_61, zl_62, zl_63, zl_64, zl_68, zl_97, zl_99, zl_100, zl_104, zl_108, zl_114, zl_120, zl_122, zl_126, zl_132, zl_180, zl_181, zl_186, zl_255, zl_900, zl_930, zl_1000, zl_1000000, nI_add, pk_mul, zs_sub, zs_lt, zs_le, zs_eq, zs_inb, zs_cl, zm_eq, zm_eq2, zm_lt, zm_le, mz_lt, mz_le, mm_eq, zs_bit, zs_or1, zs_div, zs_rem, ck_pos, if_pos, if_neg, true_or, or_true, true_and, and_true, false_or, or_false, false_and, and_false, not_true, not_false_iff, if_true, if_false, eq_self, Bool.false_eq_true, cl2_id, Bool.not_true, Bool.not_false]
        rw [ih (k + 1) n (q + 1) (by omega) (by omega) (by omega)]
        congr 2
        unfold zrg
        omega
      · rw [decide_eq_false hq2]
        simp (disch := omega) only [h.1, e0, e1, el, hb, e, hq2, Bool.and_false, cl2_so, cl1_so, ck_tr, zl_0, zl_1, zl_2, zl_3, zl_4, zl_5, zl_6, zl_7, zl_8, zl_9, zl_10, zl_11, zl_12, zl_15, zl_16, zl_20, zl_24, zl_25, zl_30, zl_31, zl_32, zl_33, zl_44, zl_48, zl_50, zl_57, zl_59, zl_60, zl_61, zl_62, zl_63, zl_64, zl_68, zl_97, zl_99, zl_100, zl_104, zl_108, zl_114, zl_120, zl_122, zl_126, zl_132, zl_180, zl_181, zl_186, zl_255, zl_900, zl_930, zl_1000, zl_1000000, nI_add, pk_mul, zs_sub, zs_lt, zs_le, zs_eq, zs_inb, zs_cl, zm_eq, zm_eq2, zm_lt, zm_le, mz_lt, mz_le, mm_eq, zs_bit, zs_or1, zs_div, zs_rem, ck_pos, if_pos, if_neg, true_or, or_true, true_and, and_true, false_or, or_false, false_and, and_false, not_true, not_false_iff, if_true, if_false, eq_self, Bool.false_eq_true, cl2_id, Bool.not_true, Bool.not_false]
        rw [ih (k + 1) n q (by omega) (by omega) (by omega)]
        congr 2
        unfold zrg
        omega
    · simp (disch := omega) only [h.1, e0, e1, el, hb, Bool.not_true, Bool.false_and, cl2_so, cl1_so, ck_tr, zl_0, zl_1, zl_2, zl_3, zl_4, zl_5, zl_6, zl_7, zl_8, zl_9, zl_10, zl_11, zl_12, zl_15, zl_16, zl_20, zl_24, zl_25, zl_30, zl_31, zl_32, zl_33, zl_44, zl_48, zl_50, zl_57, zl_59, zl_60, zl_61, zl_62, zl_63, zl_64, zl_68, zl_97, zl_99, zl_100, zl_104, zl_108, zl_114, zl_120, zl_122, zl_126, zl_132, zl_180, zl_181, zl_186, zl_255, zl_900, zl_930, zl_1000, zl_1000000, nI_add, pk_mul, zs_sub, zs_lt, zs_le, zs_eq, zs_inb, zs_cl, zm_eq, zm_eq2, zm_lt, zm_le, mz_lt, mz_le, mm_eq, zs_bit, zs_or1, zs_div, zs_rem, ck_pos, if_pos, if_neg, true_or, or_true, true_and, and_true, false_or, or_false, false_and, and_false, not_true, not_false_iff, if_true, if_false, eq_self, Bool.false_eq_true, cl2_id, Bool.not_true, Bool.not_false]
      rw [ih (k + 1) n q (by omega) (by omega) (by omega)]
      congr 2
      unfold zrg
      omega
theorem rb35 {L : List Nat} (hL : L.length ≤ 30) (hl : ML146 m L) (hlt : ∀ c ∈ L, c < 30) (hw : 1 ≤ r 1 ∧ r 1 ≤ 3) (e1 : m.1 141 1 = nI (r 1)) : ∀ j k n q, k + j = L.length → j < n → q ≤ k → fX11_ribs_35 n (nI L.length) (nI q) (nI k) m = some (nI (q + z_ct (fun i => decide (L.getD i 0 % 3 = r 1 - 1)) k j), m) := by
  intro j
  induction j with
  | zero =>
    intro k n q hk hn hq
    obtain ⟨n, rfl⟩ : ∃ n', n = n' + 1 := ⟨n - 1, by omega⟩
    rw [fX11_ribs_35, z_ct]
    simp (disch := omega) only [Nat.add_zero, cl2_so, cl1_so, ck_tr, zl_0, zl_1, zl_2, zl_3, zl_4, zl_5, zl_6, zl_7, zl_8, zl_9, zl_10, zl_11, zl_12, zl_15, zl_16, zl_20, zl_24, zl_25, zl_30, zl_31, zl_32, zl_33, zl_44, zl_48, zl_50, zl_57, zl_59, zl_60, zl_61, zl_62, zl_63, zl_64, zl_68, zl_97, zl_99, zl_100, zl_104, zl_108, zl_114, zl_120, zl_122, zl_126, zl_132, zl_180, zl_181, zl_186, zl_255, zl_900, zl_930, zl_1000, zl_1000000, nI_add, pk_mul, zs_sub, zs_lt, zs_le, zs_eq, zs_inb, zs_cl, zm_eq, zm_eq2, zm_lt, zm_le, mz_lt, mz_le, mm_eq, zs_bit, zs_or1, zs_div, zs_rem, ck_pos, if_pos, if_neg, true_or, or_true, true_and, and_true, false_or, or_false, false_and, and_false, not_true, not_false_iff, if_true, if_false, eq_self, Bool.false_eq_true, cl2_id, Bool.not_true, Bool.not_false]
  | succ j ih =>
    intro k n q hk hn hq
    obtain ⟨n, rfl⟩ : ∃ n', n = n' + 1 := ⟨n - 1, by omega⟩
    rw [fX11_ribs_35, z_ct]
    have e := hl k (by omega)
    have hb := hlt _ (getD_mem0 (show k < L.length by omega))
    have e4 : nI (L.getD k 0) - nI (L.getD k 0 / 3 * 3) = nI (L.getD k 0 % 3) := by
      have e3 := pk_rem (a := L.getD k 0) (d := 3) (by omega) (by omega) (by omega)
      rw [← e3, pk_div (by omega) (by omega) (by omega), pk_mul]
    unfold fX11_ribs_69
    by_cases hq2 : L.getD k 0 % 3 = r 1 - 1
    · rw [decide_eq_true hq2]
      simp (disch := omega) only [e, e1, e4, hq2, cl2_so, cl1_so, ck_tr, zl_0, zl_1, zl_2, zl_3, zl_4, zl_5, zl_6, zl_7, zl_8, zl_9, zl_10, zl_11, zl_12, zl_15, zl_16, zl_20, zl_24, zl_25, zl_30, zl_31, zl_32, zl_33, zl_44, zl_48, zl_50, zl_57, zl_59, zl_60, zl_61, zl_62, zl_63, zl_64, zl_68, zl_97, zl_99, zl_100, zl_104, zl_108, zl_114, zl_120, zl_122, zl_126, zl_132, zl_180, zl_181, zl_186, zl_255, zl_900, zl_930, zl_1000, zl_1000000, nI_add, pk_mul, zs_sub, zs_lt, zs_le, zs_eq, zs_inb, zs_cl, zm_eq, zm_eq2, zm_lt, zm_le, mz_lt, mz_le, mm_eq, zs_bit, zs_or1, zs_div, zs_rem, ck_pos, if_pos, if_neg, true_or, or_true, true_and, and_true, false_or, or_false, false_and, and_false, not_true, not_false_iff, if_true, if_false, eq_self, Bool.false_eq_true, cl2_id, Bool.not_true, Bool.not_false]
      rw [ih (k + 1) n (q + 1) (by omega) (by omega) (by omega)]
      congr 3
      omega
    · rw [decide_eq_false hq2]
      simp (disch := omega) only [e, e1, e4, hq2, cl2_so, cl1_so, ck_tr, zl_0, zl_1, zl_2, zl_3, zl_4, zl_5, zl_6, zl_7, zl_8, zl_9, zl_10, zl_11, zl_12, zl_15, zl_16, zl_20, zl_24, zl_25, zl_30, zl_31, zl_32, zl_33, zl_44, zl_48, zl_50, zl_57, zl_59, zl_60, zl_61, zl_62, zl_63, zl_64, zl_68, zl_97, zl_99, zl_100, zl_104, zl_108, zl_114, zl_120, zl_122, zl_126, zl_132, zl_180, zl_181, zl_186, zl_255, zl_900, zl_930, zl_1000, zl_1000000, nI_add, pk_mul, zs_sub, zs_lt, zs_le, zs_eq, zs_inb, zs_cl, zm_eq, zm_eq2, zm_lt, zm_le, mz_lt, mz_le, mm_eq, zs_bit, zs_or1, zs_div, zs_rem, ck_pos, if_pos, if_neg, true_or, or_true, true_and, and_true, false_or, or_false, false_and, and_false, not_true, not_false_iff, if_true, if_false, eq_self, Bool.false_eq_true, cl2_id, Bool.not_true, Bool.not_false]
      rw [ih (k + 1) n (q + 0) (by omega) (by omega) (by omega)]
      congr 3
      omega
theorem b_ribs (hI : Inv m) (hC : JC m H r s) (hM : JM m H r s) (hO : JO H r s) : Both (fX10_ribs x1 x2) (fX11_ribs x1 x2) m := by
  have hle := vw_le H r x1 x2
  by_cases hv : vw H r x1 x2 = 0
  · obtain ⟨rfl, side, op, a, b, rfl, rfl⟩ := vw_out (fun e => (hO e).1.1) hv
    have hK : KO r s := hO rfl
    obtain ⟨f0, f1, f2, f3, f4⟩ := hK.1.1
    have h30 := z_show_len hK.1.1 (side := side) (br := s 60) b
    refine ⟨nI (0 + z_ct (zrg r side op (s 60)) 0 (r 0)), 0, ?_, fun m1 h1 => ?_⟩
    · unfold fX10_ribs
      simp (disch := omega) only [fX10_wrongView_e hC hO, hv, cl2_so, cl1_so, ck_tr, zl_0, zl_1, zl_2, zl_3, zl_4, zl_5, zl_6, zl_7, zl_8, zl_9, zl_10, zl_11, zl_12, zl_15, zl_16, zl_20, zl_24, zl_25, zl_30, zl_31, zl_32, zl_33, zl_44, zl_48, zl_50, zl_57, zl_59, zl_60, zl_61, zl_62, zl_63, zl_64, zl_68, zl_97, zl_99, zl_100, zl_104, zl_108, zl_114, zl_120, zl_122, zl_126, zl_132, zl_180, zl_181, zl_186, zl_255, zl_900, zl_930, zl_1000, zl_1000000, nI_add, pk_mul, zs_sub, zs_lt, zs_le, zs_eq, zs_inb, zs_cl, zm_eq, zm_eq2, zm_lt, zm_le, mz_lt, mz_le, mm_eq, zs_bit, zs_or1, zs_div, zs_rem, ck_pos, if_pos, if_neg, true_or, or_true, true_and, and_true, false_or, or_false, false_and, and_false, not_true, not_false_iff, if_true, if_false, eq_self, Bool.false_eq_true, cl2_id, Bool.not_true, Bool.not_false]
      rw [rb23 hK a b (hC.kc hI) (r 0) 0 FU 0 (by omega) (FU_pos (by omega)) (by omega)]
      exact ansC_ok _ (Ak.rf m)
    · have hM1 := hM.ag (h1.agC.tr (gd_ak m1).agM)
      have hM2 := hM1.km.ag (ak_146 (z_show r side op (s 60))).agN
      unfold fX11_ribs
      simp (disch := omega) only [gd_e, fX11_openWhy_e hM1 hO, hv, hM1.km.layNow hK a b, cl2_so, cl1_so, ck_tr, zl_0, zl_1, zl_2, zl_3, zl_4, zl_5, zl_6, zl_7, zl_8, zl_9, zl_10, zl_11, zl_12, zl_15, zl_16, zl_20, zl_24, zl_25, zl_30, zl_31, zl_32, zl_33, zl_44, zl_48, zl_50, zl_57, zl_59, zl_60, zl_61, zl_62, zl_63, zl_64, zl_68, zl_97, zl_99, zl_100, zl_104, zl_108, zl_114, zl_120, zl_122, zl_126, zl_132, zl_180, zl_181, zl_186, zl_255, zl_900, zl_930, zl_1000, zl_1000000, nI_add, pk_mul, zs_sub, zs_lt, zs_le, zs_eq, zs_inb, zs_cl, zm_eq, zm_eq2, zm_lt, zm_le, mz_lt, mz_le, mm_eq, zs_bit, zs_or1, zs_div, zs_rem, ck_pos, if_pos, if_neg, true_or, or_true, true_and, and_true, false_or, or_false, false_and, and_false, not_true, not_false_iff, if_true, if_false, eq_self, Bool.false_eq_true, cl2_id, Bool.not_true, Bool.not_false]
      rw [rb35 h30 (ML_wl _) (z_show_lt hK.1.1 b) ⟨f2, f3⟩ (hM2.2.1 1 (by omega)) _ 0 FU 0 (Nat.zero_add _) (FU_pos (by omega)) (by omega), ribs_ct hK.1.1 a b]
      exact ansN_ok _ (ak_146 _)
  · refine ⟨-nI 1, vw H r x1 x2, ?_, fun m1 h1 => ?_⟩
    · unfold fX10_ribs
      simp (disch := omega) only [fX10_wrongView_e hC hO, cl2_so, cl1_so, ck_tr, zl_0, zl_1, zl_2, zl_3, zl_4, zl_5, zl_6, zl_7, zl_8, zl_9, zl_10, zl_11, zl_12, zl_15, zl_16, zl_20, zl_24, zl_25, zl_30, zl_31, zl_32, zl_33, zl_44, zl_48, zl_50, zl_57, zl_59, zl_60, zl_61, zl_62, zl_63, zl_64, zl_68, zl_97, zl_99, zl_100, zl_104, zl_108, zl_114, zl_120, zl_122, zl_126, zl_132, zl_180, zl_181, zl_186, zl_255, zl_900, zl_930, zl_1000, zl_1000000, nI_add, pk_mul, zs_sub, zs_lt, zs_le, zs_eq, zs_inb, zs_cl, zm_eq, zm_eq2, zm_lt, zm_le, mz_lt, mz_le, mm_eq, zs_bit, zs_or1, zs_div, zs_rem, ck_pos, if_pos, if_neg, true_or, or_true, true_and, and_true, false_or, or_false, false_and, and_false, not_true, not_false_iff, if_true, if_false, eq_self, Bool.false_eq_true, cl2_id, Bool.not_true, Bool.not_false]
      exact ansC_no _ (Ak.rf m)
    · have hM1 := hM.ag (h1.agC.tr (gd_ak m1).agM)
      unfold fX11_ribs
      simp (disch := omega) only [gd_e, fX11_openWhy_e hM1 hO, cl2_so, cl1_so, ck_tr, zl_0, zl_1, zl_2, zl_3, zl_4, zl_5, zl_6, zl_7, zl_8, zl_9, zl_10, zl_11, zl_12, zl_15, zl_16, zl_20, zl_24, zl_25, zl_30, zl_31, zl_32, zl_33, zl_44, zl_48, zl_50, zl_57, zl_59, zl_60, zl_61, zl_62, zl_63, zl_64, zl_68, zl_97, zl_99, zl_100, zl_104, zl_108, zl_114, zl_120, zl_122, zl_126, zl_132, zl_180, zl_181, zl_186, zl_255, zl_900, zl_930, zl_1000, zl_1000000, nI_add, pk_mul, zs_sub, zs_lt, zs_le, zs_eq, zs_inb, zs_cl, zm_eq, zm_eq2, zm_lt, zm_le, mz_lt, mz_le, mm_eq, zs_bit, zs_or1, zs_div, zs_rem, ck_pos, if_pos, if_neg, true_or, or_true, true_and, and_true, false_or, or_false, false_and, and_false, not_true, not_false_iff, if_true, if_false, eq_self, Bool.false_eq_true, cl2_id, Bool.not_true, Bool.not_false]
      exact ansM_no _ (gd_ak m1)
end C8
