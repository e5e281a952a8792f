/-! sureCells, fits, ask -/
theorem lay2 {α : Type} {r : Nat → Nat} (hf : z_fan r) (p : α → Bool) (V W : Nat → α) (h1 : ∀ side rib c, side ≤ 1 → rib < r 0 → c < r 1 → W (side * 30 + (r 1 * rib + c)) = V (30 * side + (3 * rib + c))) (h2 : ∀ k, k < 60 → (¬ ∃ side rib c, side ≤ 1 ∧ rib < r 0 ∧ c < r 1 ∧ k = side * 30 + (r 1 * rib + c)) → p (W k) = false) (h3 : ∀ side k, side ≤ 1 → k < 30 → ¬ (k / 3 < r 0 ∧ k % 3 < r 1) → p (V (30 * side + k)) = false) : z_ct (fun i => p (W i)) 0 60 = z_ct (fun i => p (V i)) 0 60 := by
  obtain ⟨f0, f1, f2, f3, f4⟩ := hf
  have hm : r 1 * r 0 ≤ 30 := Nat.le_trans (Nat.mul_le_mul f3 f1) (by decide)
  have half : ∀ side, side ≤ 1 → z_ct (fun i => p (W (i + 30 * side))) 0 30 = z_ct (fun i => p (V (i + 30 * side))) 0 30 := by
    intro side hs
    apply lay_ct (w := r 1) (n := r 0) ⟨f2, f3⟩ f1
    · intro rib c hr hc
      have e := h1 side rib c hs hr hc
      have e1 : r 1 * rib + c + 30 * side = side * 30 + (r 1 * rib + c) := by omega
      have e2 : 3 * rib + c + 30 * side = 30 * side + (3 * rib + c) := by omega
      simp only [e1, e2, e]
    · intro i a b
      refine h2 (i + 30 * side) (by omega) ?_
      rintro ⟨side', rib, c, q1, q2, q3, q4⟩
      have q5 : r 1 * rib + c < r 1 * r 0 := by
        have : r 1 * (rib + 1) ≤ r 1 * r 0 := Nat.mul_le_mul_left _ q2
        rw [Nat.mul_add] at this
        omega
      omega
    · intro rib c hr hc hn
      have e := h3 side (3 * rib + c) hs (by omega) (by
        have e1 : (3 * rib + c) / 3 = rib := by omega
        have e2 : (3 * rib + c) % 3 = c := by omega
        rw [e1, e2]
        exact hn)
      have e2 : 3 * rib + c + 30 * side = 30 * side + (3 * rib + c) := by omega
      simp only [e2, e]
  have h0 := half 0 (by omega)
  have h1' := half 1 (by omega)
  have e60 : (60 : Nat) = 30 + 30 := rfl
  rw [e60, z_ct_app, z_ct_app]
  have s1 := z_ct_shift (fun i => p (W i)) 30 30 0
  have s2 := z_ct_shift (fun i => p (V i)) 30 30 0
  rw [s1, s2]
  have h0' : z_ct (fun i => p (W i)) 0 30 = z_ct (fun i => p (V i)) 0 30 := h0
  have h1'' : z_ct (fun i => p (W (i + 30))) 0 30 = z_ct (fun i => p (V (i + 30))) 0 30 := h1'
  rw [h0', h1'']
/-- only cells of the fan are ever sure -/
def UV (r : Nat → Nat) (U : Nat → Option Nat) : Prop := ∀ side k, side ≤ 1 → k < 30 → ¬ (k / 3 < r 0 ∧ k % 3 < r 1) → U (30 * side + k) = none
section C16
variable {m : Me} {H : Bool} {t : Nat} {r s : Nat → Nat} {x1 x2 x3 x4 : Int32}
theorem UV.upd {U : Nat → Option Nat} (h : UV r U) (hO : OKr r) {q k v : Nat} (hq : q < r 7) (hk : k < r (126 + q)) : UV r (updU U (sid r q k) v) := by
  intro side k' hs hk' hn
  unfold updU
  rw [if_neg]
  · exact h side k' hs hk' hn
  · intro e
    obtain ⟨-, -, o1, rib, c, hr, hc, es⟩ := sid_ok hO hq hk
    obtain ⟨f0, f1, f2, f3, f4⟩ := hO.1
    unfold sid at e
    rw [es] at e
    apply hn
    have e2 : k' = 3 * rib + c := by omega
    subst e2
    constructor
    · have : (3 * rib + c) / 3 = rib := by omega
      omega
    · have : (3 * rib + c) % 3 = c := by omega
      omega
theorem lrn_uv (h : OKr r) {q : Nat} (hq : q < r 7) : ∀ j k U, UV r U → k + j = r (126 + q) → UV r (lrn r q k j U)
  | 0, k, U, hU, _ => hU
  | j + 1, k, U, hU, hk => by
    rw [lrn]
    exact lrn_uv h hq j (k + 1) _ (hU.upd h hq (by omega)) (by omega)
theorem sur_uv (h : OKr r) : ∀ j q U, UV r U → q + j = r 7 → UV r (sur r q j U).1
  | 0, q, U, hU, _ => hU
  | j + 1, q, U, hU, hq => by
    rw [sur]
    split
    · exact sur_uv h j (q + 1) _ (lrn_uv h (by omega) _ 0 U hU (by omega)) (by omega)
    · exact hU
theorem surR_uv (h : OKr r) : UV r (surR r).1 := sur_uv h (r 7) 0 _ (fun _ _ _ _ _ => rfl) (by omega)
def nU (x : Int32) : Bool := decide (x ≠ -nI 3)
theorem nU_uI {o : Option Nat} (h : ∀ c, o = some c → c ≤ 25) : nU (uI o) = o.isSome := by
  cases o with
  | none => exact decide_eq_false (fun q => q rfl)
  | some c =>
    refine decide_eq_true (fun q => ?_)
    have := h c rfl
    have q' : nI c = -nI 3 := q
    rw [zm_eq (by omega) (by omega)] at q'
    omega
theorem nU_uS {o : Option Nat} (h : ∀ c, o = some c → c ≤ 25) : nU (uS o) = o.isSome := by
  cases o with
  | none => exact decide_eq_false (fun q => q rfl)
  | some c => exact decide_eq_true (seenV_3 (h c rfl))
theorem cs4 : ∀ j k n q, k + j = 60 → j < n → fX9_countSure_4 n (nI q) (nI k) m = some (nI (q + z_ct (fun i => nU (m.1 95 i)) k j), m) := by
  intro j
  induction j with
  | zero =>
    intro k n q hk hn
    obtain ⟨n, rfl⟩ : ∃ n', n = n' + 1 := ⟨n - 1, by omega⟩
    rw [fX9_countSure_4, z_ct]
    simp (disch := omega) only [Nat.add_zero, cl2_so, cl1_so, ck_tr, zl_0, zl_1, zl_2, zl_3, zl_4, zl_5, zl_6, zl_7, zl_8, zl_9, zl_10, zl_11, zl_12, zl_15, zl_16, zl_20, zl_24, zl_25, zl_30, zl_31, zl_32, zl_33, zl_44, zl_48, zl_50, zl_57, zl_59, zl_60, zl_61, zl_62, zl_63, zl_64, zl_68, zl_97, zl_99, zl_100, zl_104, zl_108, zl_114, zl_120, zl_122, zl_126, zl_132, zl_180, zl_181, zl_186, zl_255, zl_900, zl_930, zl_1000, zl_1000000, nI_add, pk_mul, zs_sub, zs_lt, zs_le, zs_eq, zs_inb, zs_cl, zm_eq, zm_eq2, zm_lt, zm_le, mz_lt, mz_le, mm_eq, zs_bit, zs_or1, zs_div, zs_rem, ck_pos, if_pos, if_neg, true_or, or_true, true_and, and_true, false_or, or_false, false_and, and_false, not_true, not_false_iff, if_true, if_false, eq_self, Bool.false_eq_true, cl2_id, Bool.not_true, Bool.not_false]
  | succ j ih =>
    intro k n q hk hn
    obtain ⟨n, rfl⟩ : ∃ n', n = n' + 1 := ⟨n - 1, by omega⟩
    rw [fX9_countSure_4, z_ct]
    unfold fX9_countSure_27
    by_cases hg : m.1 95 k = -nI 3
    · have e : nU (m.1 95 k) = false := decide_eq_false (fun q => q hg)
      simp only [e]
      simp (disch := omega) only [hg, cl2_so, cl1_so, ck_tr, zl_0, zl_1, zl_2, zl_3, zl_4, zl_5, zl_6, zl_7, zl_8, zl_9, zl_10, zl_11, zl_12, zl_15, zl_16, zl_20, zl_24, zl_25, zl_30, zl_31, zl_32, zl_33, zl_44, zl_48, zl_50, zl_57, zl_59, zl_60, zl_61, zl_62, zl_63, zl_64, zl_68, zl_97, zl_99, zl_100, zl_104, zl_108, zl_114, zl_120, zl_122, zl_126, zl_132, zl_180, zl_181, zl_186, zl_255, zl_900, zl_930, zl_1000, zl_1000000, nI_add, pk_mul, zs_sub, zs_lt, zs_le, zs_eq, zs_inb, zs_cl, zm_eq, zm_eq2, zm_lt, zm_le, mz_lt, mz_le, mm_eq, zs_bit, zs_or1, zs_div, zs_rem, ck_pos, if_pos, if_neg, true_or, or_true, true_and, and_true, false_or, or_false, false_and, and_false, not_true, not_false_iff, if_true, if_false, eq_self, Bool.false_eq_true, cl2_id, Bool.not_true, Bool.not_false]
      rw [ih (k + 1) n q (by omega) (by omega)]
      congr 3
      omega
    · have e : nU (m.1 95 k) = true := decide_eq_true hg
      simp only [e]
      simp (disch := omega) only [hg, cl2_so, cl1_so, ck_tr, zl_0, zl_1, zl_2, zl_3, zl_4, zl_5, zl_6, zl_7, zl_8, zl_9, zl_10, zl_11, zl_12, zl_15, zl_16, zl_20, zl_24, zl_25, zl_30, zl_31, zl_32, zl_33, zl_44, zl_48, zl_50, zl_57, zl_59, zl_60, zl_61, zl_62, zl_63, zl_64, zl_68, zl_97, zl_99, zl_100, zl_104, zl_108, zl_114, zl_120, zl_122, zl_126, zl_132, zl_180, zl_181, zl_186, zl_255, zl_900, zl_930, zl_1000, zl_1000000, nI_add, pk_mul, zs_sub, zs_lt, zs_le, zs_eq, zs_inb, zs_cl, zm_eq, zm_eq2, zm_lt, zm_le, mz_lt, mz_le, mm_eq, zs_bit, zs_or1, zs_div, zs_rem, ck_pos, if_pos, if_neg, true_or, or_true, true_and, and_true, false_or, or_false, false_and, and_false, not_true, not_false_iff, if_true, if_false, eq_self, Bool.false_eq_true, cl2_id, Bool.not_true, Bool.not_false]
      rw [ih (k + 1) n (q + 1) (by omega) (by omega)]
      congr 3
      omega
theorem sc26 : ∀ j k n q, k + j = 60 → j < n → fX11_sureCells_26 n (nI q) (nI k) m = some (nI (q + z_ct (fun i => nU (m.1 154 i)) k j), m) := by
  intro j
  induction j with
  | zero =>
    intro k n q hk hn
    obtain ⟨n, rfl⟩ : ∃ n', n = n' + 1 := ⟨n - 1, by omega⟩
    rw [fX11_sureCells_26, z_ct]
    simp (disch := omega) only [Nat.add_zero, cl2_so, cl1_so, ck_tr, zl_0, zl_1, zl_2, zl_3, zl_4, zl_5, zl_6, zl_7, zl_8, zl_9, zl_10, zl_11, zl_12, zl_15, zl_16, zl_20, zl_24, zl_25, zl_30, zl_31, zl_32, zl_33, zl_44, zl_48, zl_50, zl_57, zl_59, zl_60, zl_61, zl_62, zl_63, zl_64, zl_68, zl_97, zl_99, zl_100, zl_104, zl_108, zl_114, zl_120, zl_122, zl_126, zl_132, zl_180, zl_181, zl_186, zl_255, zl_900, zl_930, zl_1000, zl_1000000, nI_add, pk_mul, zs_sub, zs_lt, zs_le, zs_eq, zs_inb, zs_cl, zm_eq, zm_eq2, zm_lt, zm_le, mz_lt, mz_le, mm_eq, zs_bit, zs_or1, zs_div, zs_rem, ck_pos, if_pos, if_neg, true_or, or_true, true_and, and_true, false_or, or_false, false_and, and_false, not_true, not_false_iff, if_true, if_false, eq_self, Bool.false_eq_true, cl2_id, Bool.not_true, Bool.not_false]
  | succ j ih =>
    intro k n q hk hn
    obtain ⟨n, rfl⟩ : ∃ n', n = n' + 1 := ⟨n - 1, by omega⟩
    rw [fX11_sureCells_26, z_ct]
    unfold fX11_sureCells_49
    by_cases hg : m.1 154 k = -nI 3
    · have e : nU (m.1 154 k) = false := decide_eq_false (fun q => q hg)
      simp only [e]
      simp (disch := omega) only [hg, cl2_so, cl1_so, ck_tr, zl_0, zl_1, zl_2, zl_3, zl_4, zl_5, zl_6, zl_7, zl_8, zl_9, zl_10, zl_11, zl_12, zl_15, zl_16, zl_20, zl_24, zl_25, zl_30, zl_31, zl_32, zl_33, zl_44, zl_48, zl_50, zl_57, zl_59, zl_60, zl_61, zl_62, zl_63, zl_64, zl_68, zl_97, zl_99, zl_100, zl_104, zl_108, zl_114, zl_120, zl_122, zl_126, zl_132, zl_180, zl_181, zl_186, zl_255, zl_900, zl_930, zl_1000, zl_1000000, nI_add, pk_mul, zs_sub, zs_lt, zs_le, zs_eq, zs_inb, zs_cl, zm_eq, zm_eq2, zm_lt, zm_le, mz_lt, mz_le, mm_eq, zs_bit, zs_or1, zs_div, zs_rem, ck_pos, if_pos, if_neg, true_or, or_true, true_and, and_true, false_or, or_false, false_and, and_false, not_true, not_false_iff, if_true, if_false, eq_self, Bool.false_eq_true, cl2_id, Bool.not_true, Bool.not_false]
      rw [ih (k + 1) n (q + 0) (by omega) (by omega)]
      congr 3
      omega
    · have e : nU (m.1 154 k) = true := decide_eq_true hg
      simp only [e]
      simp (disch := omega) only [hg, cl2_so, cl1_so, ck_tr, zl_0, zl_1, zl_2, zl_3, zl_4, zl_5, zl_6, zl_7, zl_8, zl_9, zl_10, zl_11, zl_12, zl_15, zl_16, zl_20, zl_24, zl_25, zl_30, zl_31, zl_32, zl_33, zl_44, zl_48, zl_50, zl_57, zl_59, zl_60, zl_61, zl_62, zl_63, zl_64, zl_68, zl_97, zl_99, zl_100, zl_104, zl_108, zl_114, zl_120, zl_122, zl_126, zl_132, zl_180, zl_181, zl_186, zl_255, zl_900, zl_930, zl_1000, zl_1000000, nI_add, pk_mul, zs_sub, zs_lt, zs_le, zs_eq, zs_inb, zs_cl, zm_eq, zm_eq2, zm_lt, zm_le, mz_lt, mz_le, mm_eq, zs_bit, zs_or1, zs_div, zs_rem, ck_pos, if_pos, if_neg, true_or, or_true, true_and, and_true, false_or, or_false, false_and, and_false, not_true, not_false_iff, if_true, if_false, eq_self, Bool.false_eq_true, cl2_id, Bool.not_true, Bool.not_false]
      rw [ih (k + 1) n (q + 1) (by omega) (by omega)]
      congr 3
      omega
theorem b_sureCells (hC : JC m H r s) (hM : JM m H r s) (hO : JO H r s) (hS : H = true → SC m r) : Both fX10_sureCells fX11_sureCells m := by
  cases H
  · refine ⟨-nI 1, 1, ?_, fun m1 h1 => ?_⟩
    · have e : m.1 0 4 = nI 0 := hC.1
      unfold fX10_sureCells fX10_sureCells_26
      simp (disch := omega) only [e, cl2_so, cl1_so, ck_tr, zl_0, zl_1, zl_2, zl_3, zl_4, zl_5, zl_6, zl_7, zl_8, zl_9, zl_10, zl_11, zl_12, zl_15, zl_16, zl_20, zl_24, zl_25, zl_30, zl_31, zl_32, zl_33, zl_44, zl_48, zl_50, zl_57, zl_59, zl_60, zl_61, zl_62, zl_63, zl_64, zl_68, zl_97, zl_99, zl_100, zl_104, zl_108, zl_114, zl_120, zl_122, zl_126, zl_132, zl_180, zl_181, zl_186, zl_255, zl_900, zl_930, zl_1000, zl_1000000, nI_add, pk_mul, zs_sub, zs_lt, zs_le, zs_eq, zs_inb, zs_cl, zm_eq, zm_eq2, zm_lt, zm_le, mz_lt, mz_le, mm_eq, zs_bit, zs_or1, zs_div, zs_rem, ck_pos, if_pos, if_neg, true_or, or_true, true_and, and_true, false_or, or_false, false_and, and_false, not_true, not_false_iff, if_true, if_false, eq_self, Bool.false_eq_true, cl2_id, Bool.not_true, Bool.not_false]
      exact ansC_no 1 (Ak.rf m)
    · have hM1 := hM.ag (h1.agC.tr (gd_ak m1).agM)
      have e : (gdM m1).1 138 14 = nI 0 := hM1.1
      unfold fX11_sureCells
      simp (disch := omega) only [gd_e, e, cl2_so, cl1_so, ck_tr, zl_0, zl_1, zl_2, zl_3, zl_4, zl_5, zl_6, zl_7, zl_8, zl_9, zl_10, zl_11, zl_12, zl_15, zl_16, zl_20, zl_24, zl_25, zl_30, zl_31, zl_32, zl_33, zl_44, zl_48, zl_50, zl_57, zl_59, zl_60, zl_61, zl_62, zl_63, zl_64, zl_68, zl_97, zl_99, zl_100, zl_104, zl_108, zl_114, zl_120, zl_122, zl_126, zl_132, zl_180, zl_181, zl_186, zl_255, zl_900, zl_930, zl_1000, zl_1000000, nI_add, pk_mul, zs_sub, zs_lt, zs_le, zs_eq, zs_inb, zs_cl, zm_eq, zm_eq2, zm_lt, zm_le, mz_lt, mz_le, mm_eq, zs_bit, zs_or1, zs_div, zs_rem, ck_pos, if_pos, if_neg, true_or, or_true, true_and, and_true, false_or, or_false, false_and, and_false, not_true, not_false_iff, if_true, if_false, eq_self, Bool.false_eq_true, cl2_id, Bool.not_true, Bool.not_false]
      exact ansM_no 1 (gd_ak m1)
  · have hK : KO r s := hO rfl
    have hU := surR_ok hK.1
    refine ⟨nI (0 + z_ct (fun i => ((surR r).1 i).isSome) 0 60), 0, ?_, fun m1 h1 => ?_⟩
    · have e0 : m.1 0 4 = nI 1 := hC.1
      have e1 := cs4 (m := m) 60 0 FU 0 (by omega) (FU_pos (by omega))
      have e2 := lay2 hK.1.1 nU (fun i => uI ((surR r).1 i)) (fun i => m.1 95 i) (hS rfl).1 (fun k hk hn => by
        show nU (m.1 95 k) = false
        rw [(hS rfl).2.1 k hk hn]
        exact decide_eq_false (fun q => q rfl)) (fun side k hs hk hn => by
        show nU (uI ((surR r).1 (30 * side + k))) = false
        rw [surR_uv hK.1 side k hs hk hn]
        exact decide_eq_false (fun q => q rfl))
      have e3 : z_ct (fun i => nU (uI ((surR r).1 i))) 0 60 = z_ct (fun i => ((surR r).1 i).isSome) 0 60 := z_ct_congr _ _ (fun i _ _ => nU_uI (fun c hc => hU i c hc))
      rw [e2, e3] at e1
      unfold fX10_sureCells fX10_sureCells_26 fX9_countSure
      simp (disch := omega) only [e0, e1, cl2_so, cl1_so, ck_tr, zl_0, zl_1, zl_2, zl_3, zl_4, zl_5, zl_6, zl_7, zl_8, zl_9, zl_10, zl_11, zl_12, zl_15, zl_16, zl_20, zl_24, zl_25, zl_30, zl_31, zl_32, zl_33, zl_44, zl_48, zl_50, zl_57, zl_59, zl_60, zl_61, zl_62, zl_63, zl_64, zl_68, zl_97, zl_99, zl_100, zl_104, zl_108, zl_114, zl_120, zl_122, zl_126, zl_132, zl_180, zl_181, zl_186, zl_255, zl_900, zl_930, zl_1000, zl_1000000, nI_add, pk_mul, zs_sub, zs_lt, zs_le, zs_eq, zs_inb, zs_cl, zm_eq, zm_eq2, zm_lt, zm_le, mz_lt, mz_le, mm_eq, zs_bit, zs_or1, zs_div, zs_rem, ck_pos, if_pos, if_neg, true_or, or_true, true_and, and_true, false_or, or_false, false_and, and_false, not_true, not_false_iff, if_true, if_false, eq_self, Bool.false_eq_true, cl2_id, Bool.not_true, Bool.not_false]
      exact ansC_ok _ (Ak.rf m)
    · have hM1 := hM.ag (h1.agC.tr (gd_ak m1).agM)
      have e0 : (gdM m1).1 138 14 = nI 1 := hM1.1
      obtain ⟨m2, e2, f1, f2, f3⟩ := hM1.km.laySure hK
      have e1 := sc26 (m := m2) 60 0 FU 0 (by omega) (FU_pos (by omega))
      have e3 : z_ct (fun i => nU (m2.1 154 i)) 0 60 = z_ct (fun i => ((surR r).1 i).isSome) 0 60 := z_ct_congr _ _ (fun i _ hi => by
        show nU (m2.1 154 i) = _
        rw [f3 i (by omega)]
        exact nU_uS (fun c hc => hU i c hc))
      rw [e3] at e1
      unfold fX11_sureCells
      simp (disch := omega) only [gd_e, e0, e2, e1, cl2_so, cl1_so, ck_tr, zl_0, zl_1, zl_2, zl_3, zl_4, zl_5, zl_6, zl_7, zl_8, zl_9, zl_10, zl_11, zl_12, zl_15, zl_16, zl_20, zl_24, zl_25, zl_30, zl_31, zl_32, zl_33, zl_44, zl_48, zl_50, zl_57, zl_59, zl_60, zl_61, zl_62, zl_63, zl_64, zl_68, zl_97, zl_99, zl_100, zl_104, zl_108, zl_114, zl_120, zl_122, zl_126, zl_132, zl_180, zl_181, zl_186, zl_255, zl_900, zl_930, zl_1000, zl_1000000, nI_add, pk_mul, zs_sub, zs_lt, zs_le, zs_eq, zs_inb, zs_cl, zm_eq, zm_eq2, zm_lt, zm_le, mz_lt, mz_le, mm_eq, zs_bit, zs_or1, zs_div, zs_rem, ck_pos, if_pos, if_neg, true_or, or_true, true_and, and_true, false_or, or_false, false_and, and_false, not_true, not_false_iff, if_true, if_false, eq_self, Bool.false_eq_true, cl2_id, Bool.not_true, Bool.not_false]
      exact ansN_ok _ f1
/-! fits -/
def fiq (r s : Nat → Nat) (q : Nat) : Bool := z_al (z_g (z_seen r q) (zT r s (r (108 + q)) (r (114 + q)) 0) (r (120 + q))) 0 (r (126 + q))
theorem ft15 (hO : KO r s) : ∀ j k n (m : Me), KC m t r s → k + j = r 7 → j < n → AnsC (fX10_fits_15 n (nI k) m) (nI (if z_al (fiq r s) k j then 1 else 0)) 0 m := by
  have hr7 := hO.1.2.2.2.2.2.1
  intro j
  induction j with
  | zero =>
    intro k n m h hk hn
    obtain ⟨n, rfl⟩ : ∃ n', n = n' + 1 := ⟨n - 1, by omega⟩
    have e11 := h.2.2.1.2.1.2.2.2.1
    rw [fX10_fits_15, z_al]
    simp (disch := omega) only [h.1, e11, cl2_so, cl1_so, ck_tr, zl_0, zl_1, zl_2, zl_3, zl_4, zl_5, zl_6, zl_7, zl_8, zl_9, zl_10, zl_11, zl_12, zl_15, zl_16, zl_20, zl_24, zl_25, zl_30, zl_31, zl_32, zl_33, zl_44, zl_48, zl_50, zl_57, zl_59, zl_60, zl_61, zl_62, zl_63, zl_64, zl_68, zl_97, zl_99, zl_100, zl_104, zl_108, zl_114, zl_120, zl_122, zl_126, zl_132, zl_180, zl_181, zl_186, zl_255, zl_900, zl_930, zl_1000, zl_1000000, nI_add, pk_mul, zs_sub, zs_lt, zs_le, zs_eq, zs_inb, zs_cl, zm_eq, zm_eq2, zm_lt, zm_le, mz_lt, mz_le, mm_eq, zs_bit, zs_or1, zs_div, zs_rem, ck_pos, if_pos, if_neg, true_or, or_true, true_and, and_true, false_or, or_false, false_and, and_false, not_true, not_false_iff, if_true, if_false, eq_self, Bool.false_eq_true, cl2_id, Bool.not_true, Bool.not_false]
    exact ansC_ok _ (Ak.rf m)
  | succ j ih =>
    intro k n m h hk hn
    obtain ⟨n, rfl⟩ : ∃ n', n = n' + 1 := ⟨n - 1, by omega⟩
    have e11 := h.2.2.1.2.1.2.2.2.1
    have ht := h.tt
    obtain ⟨o7, o8, o1, o2, o3, -⟩ := hO.1.2.2.2.2.2.2.2.2.2.1 k (by omega)
    obtain ⟨q1, q2, q3, q4⟩ := h.seen (q := k) (by omega)
    have b20 := hO.1.2.1 (120 + k) (by omega)
    have hmo := z_mo_le hO.1.1
    obtain ⟨m1, e1, a1, b1, c1, -⟩ := h.look hO (a := 88) (br := 0) (side := r (108 + k)) (op := r (114 + k)) (by decide) o1 o2 (by omega)
    obtain ⟨p1, p2, p3, p4⟩ := b1.seen (q := k) (by omega)
    have hw := seen_ok hO.1 (w := k) (by omega)
    have e2 := fX7_strangeAt_e c1 p1 hw.2.1 (zT_30 hO _ o2) hw.2.2 (zT_k hO _ o1 o2) (p := r (120 + k)) (by omega)
    rw [if_pos (by rw [zT_len, z_seen_len]; exact o3), z_seen_len] at e2
    have hct := z_ct_al (z_g (z_seen r k) (zT r s (r (108 + k)) (r (114 + k)) 0) (r (120 + k))) (r (126 + k)) 0
    have hle := z_ct_le (fun i => !z_g (z_seen r k) (zT r s (r (108 + k)) (r (114 + k)) 0) (r (120 + k)) i) (r (126 + k)) 0
    rw [fX10_fits_15, z_al]
    cases hg : fiq r s k
    · have hz : ¬ z_ct (fun i => !z_g (z_seen r k) (zT r s (r (108 + k)) (r (114 + k)) 0) (r (120 + k)) i) 0 (r (126 + k)) = 0 := fun z => by
        have := hct.mp z
        unfold fiq at hg
        rw [hg] at this
        cases this
      rw [Bool.false_and]
      simp (disch := omega) only [h.1, e11, q2, q3, e1, p4, e2, hz, cl2_so, cl1_so, ck_tr, zl_0, zl_1, zl_2, zl_3, zl_4, zl_5, zl_6, zl_7, zl_8, zl_9, zl_10, zl_11, zl_12, zl_15, zl_16, zl_20, zl_24, zl_25, zl_30, zl_31, zl_32, zl_33, zl_44, zl_48, zl_50, zl_57, zl_59, zl_60, zl_61, zl_62, zl_63, zl_64, zl_68, zl_97, zl_99, zl_100, zl_104, zl_108, zl_114, zl_120, zl_122, zl_126, zl_132, zl_180, zl_181, zl_186, zl_255, zl_900, zl_930, zl_1000, zl_1000000, nI_add, pk_mul, zs_sub, zs_lt, zs_le, zs_eq, zs_inb, zs_cl, zm_eq, zm_eq2, zm_lt, zm_le, mz_lt, mz_le, mm_eq, zs_bit, zs_or1, zs_div, zs_rem, ck_pos, if_pos, if_neg, true_or, or_true, true_and, and_true, false_or, or_false, false_and, and_false, not_true, not_false_iff, if_true, if_false, eq_self, Bool.false_eq_true, cl2_id, Bool.not_true, Bool.not_false]
      exact ansC_ok _ a1
    · have hz := hct.mpr hg
      rw [Bool.true_and]
      obtain ⟨m2, f1, f2, f3⟩ := ih (k + 1) n m1 b1 (by omega) (by omega)
      refine ⟨m2, ?_, a1.tr f2, f3⟩
      simp (disch := omega) only [h.1, e11, q2, q3, e1, p4, e2, hz, cl2_so, cl1_so, ck_tr, zl_0, zl_1, zl_2, zl_3, zl_4, zl_5, zl_6, zl_7, zl_8, zl_9, zl_10, zl_11, zl_12, zl_15, zl_16, zl_20, zl_24, zl_25, zl_30, zl_31, zl_32, zl_33, zl_44, zl_48, zl_50, zl_57, zl_59, zl_60, zl_61, zl_62, zl_63, zl_64, zl_68, zl_97, zl_99, zl_100, zl_104, zl_108, zl_114, zl_120, zl_122, zl_126, zl_132, zl_180, zl_181, zl_186, zl_255, zl_900, zl_930, zl_1000, zl_1000000, nI_add, pk_mul, zs_sub, zs_lt, zs_le, zs_eq, zs_inb, zs_cl, zm_eq, zm_eq2, zm_lt, zm_le, mz_lt, mz_le, mm_eq, zs_bit, zs_or1, zs_div, zs_rem, ck_pos, if_pos, if_neg, true_or, or_true, true_and, and_true, false_or, or_false, false_and, and_false, not_true, not_false_iff, if_true, if_false, eq_self, Bool.false_eq_true, cl2_id, Bool.not_true, Bool.not_false]
      exact f1
theorem ft62 (h : KM m r s) (hO : KO r s) {q : Nat} (hq : q < r 7) (hml : ML146 m (zL0 r q)) {k21 : Int32 → Int32 → Me → Option (Int32 × Me)} : ∀ j k n (b : Bool), k + j = r (126 + q) → j < n → fX11_fits_62 n k21 (nI (if b then 1 else 0)) (nI q) (nI k) m = k21 (nI (if b && z_al (z_g (z_seen r q) (zT r s (r (108 + q)) (r (114 + q)) 0) (r (120 + q))) k j then 1 else 0)) (nI (q + 1)) m := by
  have hr7 := hO.1.2.2.2.2.2.1
  obtain ⟨o7, o8, o1, o2, o3, -⟩ := hO.1.2.2.2.2.2.2.2.2.2.1 q hq
  have e1 := h.2.1 (126 + q) (by omega)
  intro j
  induction j with
  | zero =>
    intro k n b hk hn
    obtain ⟨n, rfl⟩ : ∃ n', n = n' + 1 := ⟨n - 1, by omega⟩
    rw [fX11_fits_62, z_al]
    cases b <;> simp (disch := omega) only [e1, Bool.and_true, cl2_so, cl1_so, ck_tr, zl_0, zl_1, zl_2, zl_3, zl_4, zl_5, zl_6, zl_7, zl_8, zl_9, zl_10, zl_11, zl_12, zl_15, zl_16, zl_20, zl_24, zl_25, zl_30, zl_31, zl_32, zl_33, zl_44, zl_48, zl_50, zl_57, zl_59, zl_60, zl_61, zl_62, zl_63, zl_64, zl_68, zl_97, zl_99, zl_100, zl_104, zl_108, zl_114, zl_120, zl_122, zl_126, zl_132, zl_180, zl_181, zl_186, zl_255, zl_900, zl_930, zl_1000, zl_1000000, nI_add, pk_mul, zs_sub, zs_lt, zs_le, zs_eq, zs_inb, zs_cl, zm_eq, zm_eq2, zm_lt, zm_le, mz_lt, mz_le, mm_eq, zs_bit, zs_or1, zs_div, zs_rem, ck_pos, if_pos, if_neg, true_or, or_true, true_and, and_true, false_or, or_false, false_and, and_false, not_true, not_false_iff, if_true, if_false, eq_self, Bool.false_eq_true, cl2_id, Bool.not_true, Bool.not_false]
  | succ j ih =>
    intro k n b hk hn
    obtain ⟨n, rfl⟩ : ∃ n', n = n' + 1 := ⟨n - 1, by omega⟩
    obtain ⟨sl, sl2, -, rib, c, hr, hc, es⟩ := sid_ok hO.1 hq (k := k) (by omega)
    obtain ⟨b1, b2, b3⟩ := seen_b hO.1 hq (k := k) (by omega)
    have e2 := h.2.1 (108 + q) (by omega)
    have e3 := h.2.1 (120 + q) (by omega)
    have e4 := h.2.1 (132 + 8 * q + k) (by omega)
    have b20 := hO.1.2.1 (120 + q) (by omega)
    have e5 := fX11_letterAt_e h.2.2 hml sl2 (z_show_lt hO.1.1 o2) o1 (k := r (120 + q) + k) sl
    have e5' : fX11_letterAt (nI (r (108 + q))) (nI (r (120 + q) + k)) m = some (nI ((zT r s (r (108 + q)) (r (114 + q)) 0).getD (r (120 + q) + k) 0), m) := e5
    have b5 := zT_25 hO (side := r (108 + q)) (op := r (114 + q)) 0 o1 o2 (k := r (120 + q) + k) (by rw [zT_len]; exact sl)
    have e6 : (z_seen r q).getD k 0 = r (132 + 8 * q + k) := z_w_at (by omega)
    have ih0 := ih (k + 1) n false (by omega) (by omega)
    have ih1 := ih (k + 1) n true (by omega) (by omega)
    rw [fX11_fits_62, z_al]
    unfold fX11_fits_125 fX11_fits_126
    cases b
    · simp only [Bool.false_and, Bool.false_eq_true, if_false] at ih0 ⊢
      simp (disch := omega) only [e1, cl2_so, cl1_so, ck_tr, zl_0, zl_1, zl_2, zl_3, zl_4, zl_5, zl_6, zl_7, zl_8, zl_9, zl_10, zl_11, zl_12, zl_15, zl_16, zl_20, zl_24, zl_25, zl_30, zl_31, zl_32, zl_33, zl_44, zl_48, zl_50, zl_57, zl_59, zl_60, zl_61, zl_62, zl_63, zl_64, zl_68, zl_97, zl_99, zl_100, zl_104, zl_108, zl_114, zl_120, zl_122, zl_126, zl_132, zl_180, zl_181, zl_186, zl_255, zl_900, zl_930, zl_1000, zl_1000000, nI_add, pk_mul, zs_sub, zs_lt, zs_le, zs_eq, zs_inb, zs_cl, zm_eq, zm_eq2, zm_lt, zm_le, mz_lt, mz_le, mm_eq, zs_bit, zs_or1, zs_div, zs_rem, ck_pos, if_pos, if_neg, true_or, or_true, true_and, and_true, false_or, or_false, false_and, and_false, not_true, not_false_iff, if_true, if_false, eq_self, Bool.false_eq_true, cl2_id, Bool.not_true, Bool.not_false]
      exact ih0
    · have eg : z_g (z_seen r q) (zT r s (r (108 + q)) (r (114 + q)) 0) (r (120 + q)) k = decide ((zT r s (r (108 + q)) (r (114 + q)) 0).getD (r (120 + q) + k) 0 = r (132 + 8 * q + k)) := by
        unfold z_g
        rw [e6]
      rw [eg]
      by_cases hg : (zT r s (r (108 + q)) (r (114 + q)) 0).getD (r (120 + q) + k) 0 = r (132 + 8 * q + k)
      · rw [decide_eq_true hg, Bool.true_and]
        simp only [if_true] at ih1
        simp (disch := omega) only [e1, e2, e3, e5', e4, hg, cl2_so, cl1_so, ck_tr, zl_0, zl_1, zl_2, zl_3, zl_4, zl_5, zl_6, zl_7, zl_8, zl_9, zl_10, zl_11, zl_12, zl_15, zl_16, zl_20, zl_24, zl_25, zl_30, zl_31, zl_32, zl_33, zl_44, zl_48, zl_50, zl_57, zl_59, zl_60, zl_61, zl_62, zl_63, zl_64, zl_68, zl_97, zl_99, zl_100, zl_104, zl_108, zl_114, zl_120, zl_122, zl_126, zl_132, zl_180, zl_181, zl_186, zl_255, zl_900, zl_930, zl_1000, zl_1000000, nI_add, pk_mul, zs_sub, zs_lt, zs_le, zs_eq, zs_inb, zs_cl, zm_eq, zm_eq2, zm_lt, zm_le, mz_lt, mz_le, mm_eq, zs_bit, zs_or1, zs_div, zs_rem, ck_pos, if_pos, if_neg, true_or, or_true, true_and, and_true, false_or, or_false, false_and, and_false, not_true, not_false_iff, if_true, if_false, eq_self, Bool.false_eq_true, cl2_id, Bool.not_true, Bool.not_false]
        exact ih1
      · rw [decide_eq_false hg, Bool.false_and]
        simp only [Bool.false_and, Bool.false_eq_true, if_false] at ih0
        simp (disch := omega) only [e1, e2, e3, e5', e4, hg, Bool.and_false, cl2_so, cl1_so, ck_tr, zl_0, zl_1, zl_2, zl_3, zl_4, zl_5, zl_6, zl_7, zl_8, zl_9, zl_10, zl_11, zl_12, zl_15, zl_16, zl_20, zl_24, zl_25, zl_30, zl_31, zl_32, zl_33, zl_44, zl_48, zl_50, zl_57, zl_59, zl_60, zl_61, zl_62, zl_63, zl_64, zl_68, zl_97, zl_99, zl_100, zl_104, zl_108, zl_114, zl_120, zl_122, zl_126, zl_132, zl_180, zl_181, zl_186, zl_255, zl_900, zl_930, zl_1000, zl_1000000, nI_add, pk_mul, zs_sub, zs_lt, zs_le, zs_eq, zs_inb, zs_cl, zm_eq, zm_eq2, zm_lt, zm_le, mz_lt, mz_le, mm_eq, zs_bit, zs_or1, zs_div, zs_rem, ck_pos, if_pos, if_neg, true_or, or_true, true_and, and_true, false_or, or_false, false_and, and_false, not_true, not_false_iff, if_true, if_false, eq_self, Bool.false_eq_true, cl2_id, Bool.not_true, Bool.not_false]
        exact ih0
theorem ft21 (hO : KO r s) : ∀ j k n (b : Bool) (m : Me), KM m r s → k + j = r 7 → j < n → ∃ m', fX11_fits_21 n (nI (if b then 1 else 0)) (nI k) m = some (nI (if b && z_al (fiq r s) k j then 1 else 0), m') ∧ Ak sN m m' := by
  have hr7 := hO.1.2.2.2.2.2.1
  intro j
  induction j with
  | zero =>
    intro k n b m h hk hn
    obtain ⟨n, rfl⟩ : ∃ n', n = n' + 1 := ⟨n - 1, by omega⟩
    refine ⟨m, ?_, Ak.rf m⟩
    rw [fX11_fits_21, z_al]
    unfold fX11_fits_148
    cases b <;> simp (disch := omega) only [h.2.1 7 (by omega), Bool.and_true, cl2_so, cl1_so, ck_tr, zl_0, zl_1, zl_2, zl_3, zl_4, zl_5, zl_6, zl_7, zl_8, zl_9, zl_10, zl_11, zl_12, zl_15, zl_16, zl_20, zl_24, zl_25, zl_30, zl_31, zl_32, zl_33, zl_44, zl_48, zl_50, zl_57, zl_59, zl_60, zl_61, zl_62, zl_63, zl_64, zl_68, zl_97, zl_99, zl_100, zl_104, zl_108, zl_114, zl_120, zl_122, zl_126, zl_132, zl_180, zl_181, zl_186, zl_255, zl_900, zl_930, zl_1000, zl_1000000, nI_add, pk_mul, zs_sub, zs_lt, zs_le, zs_eq, zs_inb, zs_cl, zm_eq, zm_eq2, zm_lt, zm_le, mz_lt, mz_le, mm_eq, zs_bit, zs_or1, zs_div, zs_rem, ck_pos, if_pos, if_neg, true_or, or_true, true_and, and_true, false_or, or_false, false_and, and_false, not_true, not_false_iff, if_true, if_false, eq_self, Bool.false_eq_true, cl2_id, Bool.not_true, Bool.not_false]
  | succ j ih =>
    intro k n b m h hk hn
    obtain ⟨n, rfl⟩ : ∃ n', n = n' + 1 := ⟨n - 1, by omega⟩
    obtain ⟨o7, o8, o1, o2, o3, -⟩ := hO.1.2.2.2.2.2.2.2.2.2.1 k (by omega)
    have e1 := h.2.1 (108 + k) (by omega)
    have e2 := h.2.1 (114 + k) (by omega)
    have el := h.lay hO (side := r (108 + k)) (op := r (114 + k)) (br := 0) o1 o2 (by omega)
    have hA := ak_146 (m := m) (zL0 r k)
    have hK := h.ag hA.agN
    have e62 := ft62 hK hO (q := k) (by omega) (ML_wl _) (k21 := fX11_fits_21 n) (r (126 + k)) 0 FU b (by omega) (FU_pos (by omega))
    obtain ⟨m2, f1, f2⟩ := ih (k + 1) n (b && fiq r s k) _ hK (by omega) (by omega)
    refine ⟨m2, ?_, hA.tr f2⟩
    rw [fX11_fits_21, z_al, ← Bool.and_assoc]
    simp (disch := omega) only [h.2.1 7 (by omega), e1, e2, el, cl2_so, cl1_so, ck_tr, zl_0, zl_1, zl_2, zl_3, zl_4, zl_5, zl_6, zl_7, zl_8, zl_9, zl_10, zl_11, zl_12, zl_15, zl_16, zl_20, zl_24, zl_25, zl_30, zl_31, zl_32, zl_33, zl_44, zl_48, zl_50, zl_57, zl_59, zl_60, zl_61, zl_62, zl_63, zl_64, zl_68, zl_97, zl_99, zl_100, zl_104, zl_108, zl_114, zl_120, zl_122, zl_126, zl_132, zl_180, zl_181, zl_186, zl_255, zl_900, zl_930, zl_1000, zl_1000000, nI_add, pk_mul, zs_sub, zs_lt, zs_le, zs_eq, zs_inb, zs_cl, zm_eq, zm_eq2, zm_lt, zm_le, mz_lt, mz_le, mm_eq, zs_bit, zs_or1, zs_div, zs_rem, ck_pos, if_pos, if_neg, true_or, or_true, true_and, and_true, false_or, or_false, false_and, and_false, not_true, not_false_iff, if_true, if_false, eq_self, Bool.false_eq_true, cl2_id, Bool.not_true, Bool.not_false]
    exact e62.trans f1
theorem b_fits (hI : Inv m) (hC : JC m H r s) (hM : JM m H r s) (hO : JO H r s) : Both fX10_fits fX11_fits m := by
  cases H
  · refine ⟨-nI 1, 1, ?_, fun m1 h1 => ?_⟩
    · have e : m.1 0 4 = nI 0 := hC.1
      unfold fX10_fits
      simp (disch := omega) only [e, cl2_so, cl1_so, ck_tr, zl_0, zl_1, zl_2, zl_3, zl_4, zl_5, zl_6, zl_7, zl_8, zl_9, zl_10, zl_11, zl_12, zl_15, zl_16, zl_20, zl_24, zl_25, zl_30, zl_31, zl_32, zl_33, zl_44, zl_48, zl_50, zl_57, zl_59, zl_60, zl_61, zl_62, zl_63, zl_64, zl_68, zl_97, zl_99, zl_100, zl_104, zl_108, zl_114, zl_120, zl_122, zl_126, zl_132, zl_180, zl_181, zl_186, zl_255, zl_900, zl_930, zl_1000, zl_1000000, nI_add, pk_mul, zs_sub, zs_lt, zs_le, zs_eq, zs_inb, zs_cl, zm_eq, zm_eq2, zm_lt, zm_le, mz_lt, mz_le, mm_eq, zs_bit, zs_or1, zs_div, zs_rem, ck_pos, if_pos, if_neg, true_or, or_true, true_and, and_true, false_or, or_false, false_and, and_false, not_true, not_false_iff, if_true, if_false, eq_self, Bool.false_eq_true, cl2_id, Bool.not_true, Bool.not_false]
      exact ansC_no 1 (Ak.rf m)
    · have hM1 := hM.ag (h1.agC.tr (gd_ak m1).agM)
      have e : (gdM m1).1 138 14 = nI 0 := hM1.1
      unfold fX11_fits
      simp (disch := omega) only [gd_e, e, cl2_so, cl1_so, ck_tr, zl_0, zl_1, zl_2, zl_3, zl_4, zl_5, zl_6, zl_7, zl_8, zl_9, zl_10, zl_11, zl_12, zl_15, zl_16, zl_20, zl_24, zl_25, zl_30, zl_31, zl_32, zl_33, zl_44, zl_48, zl_50, zl_57, zl_59, zl_60, zl_61, zl_62, zl_63, zl_64, zl_68, zl_97, zl_99, zl_100, zl_104, zl_108, zl_114, zl_120, zl_122, zl_126, zl_132, zl_180, zl_181, zl_186, zl_255, zl_900, zl_930, zl_1000, zl_1000000, nI_add, pk_mul, zs_sub, zs_lt, zs_le, zs_eq, zs_inb, zs_cl, zm_eq, zm_eq2, zm_lt, zm_le, mz_lt, mz_le, mm_eq, zs_bit, zs_or1, zs_div, zs_rem, ck_pos, if_pos, if_neg, true_or, or_true, true_and, and_true, false_or, or_false, false_and, and_false, not_true, not_false_iff, if_true, if_false, eq_self, Bool.false_eq_true, cl2_id, Bool.not_true, Bool.not_false]
      exact ansM_no 1 (gd_ak m1)
  · have hK : KO r s := hO rfl
    have hr7 := hK.1.2.2.2.2.2.1
    refine ⟨nI (if z_al (fiq r s) 0 (r 7) then 1 else 0), 0, ?_, fun m1 h1 => ?_⟩
    · have e0 : m.1 0 4 = nI 1 := hC.1
      unfold fX10_fits
      simp (disch := omega) only [e0, cl2_so, cl1_so, ck_tr, zl_0, zl_1, zl_2, zl_3, zl_4, zl_5, zl_6, zl_7, zl_8, zl_9, zl_10, zl_11, zl_12, zl_15, zl_16, zl_20, zl_24, zl_25, zl_30, zl_31, zl_32, zl_33, zl_44, zl_48, zl_50, zl_57, zl_59, zl_60, zl_61, zl_62, zl_63, zl_64, zl_68, zl_97, zl_99, zl_100, zl_104, zl_108, zl_114, zl_120, zl_122, zl_126, zl_132, zl_180, zl_181, zl_186, zl_255, zl_900, zl_930, zl_1000, zl_1000000, nI_add, pk_mul, zs_sub, zs_lt, zs_le, zs_eq, zs_inb, zs_cl, zm_eq, zm_eq2, zm_lt, zm_le, mz_lt, mz_le, mm_eq, zs_bit, zs_or1, zs_div, zs_rem, ck_pos, if_pos, if_neg, true_or, or_true, true_and, and_true, false_or, or_false, false_and, and_false, not_true, not_false_iff, if_true, if_false, eq_self, Bool.false_eq_true, cl2_id, Bool.not_true, Bool.not_false]
      exact ft15 hK (r 7) 0 FU m (hC.kc hI) (by omega) (FU_pos (by omega))
    · have hM1 := hM.ag (h1.agC.tr (gd_ak m1).agM)
      have e0 : (gdM m1).1 138 14 = nI 1 := hM1.1
      obtain ⟨m2, e2, f1⟩ := ft21 hK (r 7) 0 FU true _ hM1.km (by omega) (FU_pos (by omega))
      simp only [if_true, Bool.true_and] at e2
      unfold fX11_fits
      simp (disch := omega) only [gd_e, e0, e2, cl2_so, cl1_so, ck_tr, zl_0, zl_1, zl_2, zl_3, zl_4, zl_5, zl_6, zl_7, zl_8, zl_9, zl_10, zl_11, zl_12, zl_15, zl_16, zl_20, zl_24, zl_25, zl_30, zl_31, zl_32, zl_33, zl_44, zl_48, zl_50, zl_57, zl_59, zl_60, zl_61, zl_62, zl_63, zl_64, zl_68, zl_97, zl_99, zl_100, zl_104, zl_108, zl_114, zl_120, zl_122, zl_126, zl_132, zl_180, zl_181, zl_186, zl_255, zl_900, zl_930, zl_1000, zl_1000000, nI_add, pk_mul, zs_sub, zs_lt, zs_le, zs_eq, zs_inb, zs_cl, zm_eq, zm_eq2, zm_lt, zm_le, mz_lt, mz_le, mm_eq, zs_bit, zs_or1, zs_div, zs_rem, ck_pos, if_pos, if_neg, true_or, or_true, true_and, and_true, false_or, or_false, false_and, and_false, not_true, not_false_iff, if_true, if_false, eq_self, Bool.false_eq_true, cl2_id, Bool.not_true, Bool.not_false]
      exact ansN_ok _ f1
/-! ask -/
def uns (r : Nat → Nat) (side v : Nat) : Nat := z_ct (fun i => !((surR r).1 (30 * side + (z_show r side v 0).getD i 0)).isSome) 0 (z_show r side v 0).length
def askL (r : Nat → Nat) (side : Nat) : Nat → Nat → Option Nat × Nat → Option Nat × Nat
  | _, 0, b => b
  | k, j + 1, b => askL r side (k + 1) j (if b.2 < uns r side k then (some (50 * side + k), uns r side k) else b)
theorem uns_le (hO : KO r s) {side v : Nat} (hv : v ≤ z_mo r) : uns r side v ≤ 30 := Nat.le_trans (z_ct_le _ _ _) (z_show_len hO.1.1 hv)
theorem cu5 (hO : KO r s) (hS : SC m r) {side v : Nat} (hs : side ≤ 1) (hv : v ≤ z_mo r) (hR : RCl m 88 ((z_show r side v 0).map (z_cc r))) : ∀ j k n q, k + j = (z_show r side v 0).length → j < n → fX9_countUnsure_5 n 88 (nI side) (nI q) (nI k) m = some (nI (q + z_ct (fun i => !((surR r).1 (30 * side + (z_show r side v 0).getD i 0)).isSome) k j), m) := by
  have h30 := z_show_len hO.1.1 (side := side) (br := 0) hv
  have hlen := hR.1
  rw [List.length_map] at hlen
  have hU := surR_ok hO.1
  intro j
  induction j with
  | zero =>
    intro k n q hk hn
    obtain ⟨n, rfl⟩ : ∃ n', n = n' + 1 := ⟨n - 1, by omega⟩
    rw [fX9_countUnsure_5, z_ct]
    simp (disch := omega) only [hlen, Nat.add_zero, cl2_so, cl1_so, ck_tr, zl_0, zl_1, zl_2, zl_3, zl_4, zl_5, zl_6, zl_7, zl_8, zl_9, zl_10, zl_11, zl_12, zl_15, zl_16, zl_20, zl_24, zl_25, zl_30, zl_31, zl_32, zl_33, zl_44, zl_48, zl_50, zl_57, zl_59, zl_60, zl_61, zl_62, zl_63, zl_64, zl_68, zl_97, zl_99, zl_100, zl_104, zl_108, zl_114, zl_120, zl_122, zl_126, zl_132, zl_180, zl_181, zl_186, zl_255, zl_900, zl_930, zl_1000, zl_1000000, nI_add, pk_mul, zs_sub, zs_lt, zs_le, zs_eq, zs_inb, zs_cl, zm_eq, zm_eq2, zm_lt, zm_le, mz_lt, mz_le, mm_eq, zs_bit, zs_or1, zs_div, zs_rem, ck_pos, if_pos, if_neg, true_or, or_true, true_and, and_true, false_or, or_false, false_and, and_false, not_true, not_false_iff, if_true, if_false, eq_self, Bool.false_eq_true, cl2_id, Bool.not_true, Bool.not_false]
  | succ j ih =>
    intro k n q hk hn
    obtain ⟨n, rfl⟩ : ∃ n', n = n' + 1 := ⟨n - 1, by omega⟩
    obtain ⟨rib, c, hr, hc, es⟩ := show_cell hO.1.1 hv (getD_mem0 (show k < (z_show r side v 0).length by omega))
    have e1 := hR.2 k (by rw [List.length_map]; omega)
    rw [getD_map0 (by omega)] at e1
    have e2 := sureLet hS hO.1.1 hs hr hc
    have ecc : z_cc r ((z_show r side v 0).getD k 0) = r 1 * rib + c := by
      unfold z_cc
      obtain ⟨f0, f1, f2, f3, f4⟩ := hO.1.1
      rw [es, show (3 * rib + c) / 3 = rib by omega, show (3 * rib + c) % 3 = c by omega]
    rw [ecc] at e1
    have ih0 := ih (k + 1) n q (by omega) (by omega)
    have ih1 := ih (k + 1) n (q + 1) (by omega) (by omega)
    rw [fX9_countUnsure_5, z_ct]
    unfold fX9_countUnsure_34
    generalize z_ct (fun i => !((surR r).1 (30 * side + (z_show r side v 0).getD i 0)).isSome) (k + 1) j = Z at ih0 ih1 ⊢
    rw [es]
    cases hu : (surR r).1 (30 * side + (3 * rib + c)) with
    | none =>
      rw [hu] at e2
      have e2' : fX9_sureLetter (nI side) (nI (r 1 * rib + c)) m = some (-nI 3, m) := e2
      simp (disch := omega) only [hlen, e1, e2', Option.isSome, cl2_so, cl1_so, ck_tr, zl_0, zl_1, zl_2, zl_3, zl_4, zl_5, zl_6, zl_7, zl_8, zl_9, zl_10, zl_11, zl_12, zl_15, zl_16, zl_20, zl_24, zl_25, zl_30, zl_31, zl_32, zl_33, zl_44, zl_48, zl_50, zl_57, zl_59, zl_60, zl_61, zl_62, zl_63, zl_64, zl_68, zl_97, zl_99, zl_100, zl_104, zl_108, zl_114, zl_120, zl_122, zl_126, zl_132, zl_180, zl_181, zl_186, zl_255, zl_900, zl_930, zl_1000, zl_1000000, nI_add, pk_mul, zs_sub, zs_lt, zs_le, zs_eq, zs_inb, zs_cl, zm_eq, zm_eq2, zm_lt, zm_le, mz_lt, mz_le, mm_eq, zs_bit, zs_or1, zs_div, zs_rem, ck_pos, if_pos, if_neg, true_or, or_true, true_and, and_true, false_or, or_false, false_and, and_false, not_true, not_false_iff, if_true, if_false, eq_self, Bool.false_eq_true, cl2_id, Bool.not_true, Bool.not_false]
      rw [ih1]
      simp only [Nat.add_assoc]
    | some d =>
      rw [hu] at e2
      have hd := hU _ _ hu
      have e2' : fX9_sureLetter (nI side) (nI (r 1 * rib + c)) m = some (nI d, m) := e2
      simp (disch := omega) only [hlen, e1, e2', Option.isSome, cl2_so, cl1_so, ck_tr, zl_0, zl_1, zl_2, zl_3, zl_4, zl_5, zl_6, zl_7, zl_8, zl_9, zl_10, zl_11, zl_12, zl_15, zl_16, zl_20, zl_24, zl_25, zl_30, zl_31, zl_32, zl_33, zl_44, zl_48, zl_50, zl_57, zl_59, zl_60, zl_61, zl_62, zl_63, zl_64, zl_68, zl_97, zl_99, zl_100, zl_104, zl_108, zl_114, zl_120, zl_122, zl_126, zl_132, zl_180, zl_181, zl_186, zl_255, zl_900, zl_930, zl_1000, zl_1000000, nI_add, pk_mul, zs_sub, zs_lt, zs_le, zs_eq, zs_inb, zs_cl, zm_eq, zm_eq2, zm_lt, zm_le, mz_lt, mz_le, mm_eq, zs_bit, zs_or1, zs_div, zs_rem, ck_pos, if_pos, if_neg, true_or, or_true, true_and, and_true, false_or, or_false, false_and, and_false, not_true, not_false_iff, if_true, if_false, eq_self, Bool.false_eq_true, cl2_id, Bool.not_true, Bool.not_false]
      rw [ih0]
      simp only [Nat.zero_add]
theorem ak28 (hO : KO r s) {side : Nat} (hs : side ≤ 1) {k20 : Int32 → Int32 → Int32 → Me → Option (Int32 × Me)} : ∀ j k n b (m : Me), KC m t r s → SC m r → k + j = z_mo r + 1 → j < n → b.2 ≤ 30 → ∃ m', fX10_ask_28 n k20 (clI b.1) (nI b.2) (nI side) (nI k) m = k20 (clI (askL r side k j b).1) (nI (askL r side k j b).2) (nI (side + 1)) m' ∧ Ak sC m m' ∧ KC m' t r s ∧ SC m' r ∧ (askL r side k j b).2 ≤ 30 := by
  have hmo := z_mo_le hO.1.1
  intro j
  induction j with
  | zero =>
    intro k n b m h hS hk hn hb
    obtain ⟨n, rfl⟩ : ∃ n', n = n' + 1 := ⟨n - 1, by omega⟩
    refine ⟨m, ?_, Ak.rf m, h, hS, hb⟩
    rw [fX10_ask_28]
    simp (disch := omega) only [h.1, h.openings hO, askL, cl2_so, cl1_so, ck_tr, zl_0, zl_1, zl_2, zl_3, zl_4, zl_5, zl_6, zl_7, zl_8, zl_9, zl_10, zl_11, zl_12, zl_15, zl_16, zl_20, zl_24, zl_25, zl_30, zl_31, zl_32, zl_33, zl_44, zl_48, zl_50, zl_57, zl_59, zl_60, zl_61, zl_62, zl_63, zl_64, zl_68, zl_97, zl_99, zl_100, zl_104, zl_108, zl_114, zl_120, zl_122, zl_126, zl_132, zl_180, zl_181, zl_186, zl_255, zl_900, zl_930, zl_1000, zl_1000000, nI_add, pk_mul, zs_sub, zs_lt, zs_le, zs_eq, zs_inb, zs_cl, zm_eq, zm_eq2, zm_lt, zm_le, mz_lt, mz_le, mm_eq, zs_bit, zs_or1, zs_div, zs_rem, ck_pos, if_pos, if_neg, true_or, or_true, true_and, and_true, false_or, or_false, false_and, and_false, not_true, not_false_iff, if_true, if_false, eq_self, Bool.false_eq_true, cl2_id, Bool.not_true, Bool.not_false]
  | succ j ih =>
    intro k n b m h hS hk hn hb
    obtain ⟨n, rfl⟩ : ∃ n', n = n' + 1 := ⟨n - 1, by omega⟩
    obtain ⟨m1, e1, a1, b1, -, c1, -⟩ := h.look hO (a := 88) (br := 0) (side := side) (op := k) (by decide) hs (by omega) (by omega)
    have hS1 := hS.ag a1.agC
    have h30 := z_show_len hO.1.1 (side := side) (op := k) (br := 0) (by omega)
    have e2 := cu5 hO hS1 hs (v := k) (by omega) c1 (z_show r side k 0).length 0 FU 0 (by omega) (FU_pos (by omega))
    rw [Nat.zero_add] at e2
    have e2' : fX9_countUnsure 88 (nI side) m1 = some (nI (uns r side k), m1) := e2
    have hu := uns_le hO (side := side) (v := k) (by omega)
    rw [fX10_ask_28, askL]
    unfold fX10_ask_90
    by_cases hq : b.2 < uns r side k
    · rw [if_pos hq]
      obtain ⟨m2, f1, f2, f3, f4, f5⟩ := ih (k + 1) n (some (50 * side + k), uns r side k) m1 b1 hS1 (by omega) (by omega) hu
      refine ⟨m2, ?_, a1.tr f2, f3, f4, f5⟩
      simp (disch := omega) only [h.1, h.openings hO, e1, e2', cl2_so, cl1_so, ck_tr, zl_0, zl_1, zl_2, zl_3, zl_4, zl_5, zl_6, zl_7, zl_8, zl_9, zl_10, zl_11, zl_12, zl_15, zl_16, zl_20, zl_24, zl_25, zl_30, zl_31, zl_32, zl_33, zl_44, zl_48, zl_50, zl_57, zl_59, zl_60, zl_61, zl_62, zl_63, zl_64, zl_68, zl_97, zl_99, zl_100, zl_104, zl_108, zl_114, zl_120, zl_122, zl_126, zl_132, zl_180, zl_181, zl_186, zl_255, zl_900, zl_930, zl_1000, zl_1000000, nI_add, pk_mul, zs_sub, zs_lt, zs_le, zs_eq, zs_inb, zs_cl, zm_eq, zm_eq2, zm_lt, zm_le, mz_lt, mz_le, mm_eq, zs_bit, zs_or1, zs_div, zs_rem, ck_pos, if_pos, if_neg, true_or, or_true, true_and, and_true, false_or, or_false, false_and, and_false, not_true, not_false_iff, if_true, if_false, eq_self, Bool.false_eq_true, cl2_id, Bool.not_true, Bool.not_false]
      exact f1
    · rw [if_neg hq]
      obtain ⟨m2, f1, f2, f3, f4, f5⟩ := ih (k + 1) n b m1 b1 hS1 (by omega) (by omega) hb
      refine ⟨m2, ?_, a1.tr f2, f3, f4, f5⟩
      simp (disch := omega) only [h.1, h.openings hO, e1, e2', cl2_so, cl1_so, ck_tr, zl_0, zl_1, zl_2, zl_3, zl_4, zl_5, zl_6, zl_7, zl_8, zl_9, zl_10, zl_11, zl_12, zl_15, zl_16, zl_20, zl_24, zl_25, zl_30, zl_31, zl_32, zl_33, zl_44, zl_48, zl_50, zl_57, zl_59, zl_60, zl_61, zl_62, zl_63, zl_64, zl_68, zl_97, zl_99, zl_100, zl_104, zl_108, zl_114, zl_120, zl_122, zl_126, zl_132, zl_180, zl_181, zl_186, zl_255, zl_900, zl_930, zl_1000, zl_1000000, nI_add, pk_mul, zs_sub, zs_lt, zs_le, zs_eq, zs_inb, zs_cl, zm_eq, zm_eq2, zm_lt, zm_le, mz_lt, mz_le, mm_eq, zs_bit, zs_or1, zs_div, zs_rem, ck_pos, if_pos, if_neg, true_or, or_true, true_and, and_true, false_or, or_false, false_and, and_false, not_true, not_false_iff, if_true, if_false, eq_self, Bool.false_eq_true, cl2_id, Bool.not_true, Bool.not_false]
      exact f1
theorem as69 (h : KM m r s) (hO : KO r s) (hS : SM m (surR r).1) {side v : Nat} (hs : side ≤ 1) (hv : v ≤ z_mo r) (hml : ML146 m (z_show r side v 0)) {k29 : Int32 → Int32 → Int32 → Me → Option (Int32 × Me)} {k37 : Int32 → Int32 → Int32 → Int32 → Me → Option (Int32 × Me)} {M : Nat} (hM : M ≤ 30) : ∀ j k n q, k + j = (z_show r side v 0).length → j < n → q ≤ k → fX11_ask_69 n k29 k37 x1 (nI M) (nI side) (nI v) (nI q) (nI (z_show r side v 0).length) (nI k) m = if M < q + z_ct (fun i => !((surR r).1 (30 * side + (z_show r side v 0).getD i 0)).isSome) k j then k37 (nI (50 * side + v)) (nI (q + z_ct (fun i => !((surR r).1 (30 * side + (z_show r side v 0).getD i 0)).isSome) k j)) (nI side) (nI (v + 1)) m else k37 x1 (nI M) (nI side) (nI (v + 1)) m := by
  have h30 := z_show_len hO.1.1 (side := side) (br := 0) hv
  have hU := surR_ok hO.1
  intro j
  induction j with
  | zero =>
    intro k n q hk hn hq
    obtain ⟨n, rfl⟩ : ∃ n', n = n' + 1 := ⟨n - 1, by omega⟩
    rw [fX11_ask_69, z_ct]
    unfold fX11_ask_134
    by_cases hz : M < q
    · simp (disch := omega) only [Nat.add_zero, hz, cl2_so, cl1_so, ck_tr, zl_0, zl_1, zl_2, zl_3, zl_4, zl_5, zl_6, zl_7, zl_8, zl_9, zl_10, zl_11, zl_12, zl_15, zl_16, zl_20, zl_24, zl_25, zl_30, zl_31, zl_32, zl_33, zl_44, zl_48, zl_50, zl_57, zl_59, zl_60, zl_61, zl_62, zl_63, zl_64, zl_68, zl_97, zl_99, zl_100, zl_104, zl_108, zl_114, zl_120, zl_122, zl_126, zl_132, zl_180, zl_181, zl_186, zl_255, zl_900, zl_930, zl_1000, zl_1000000, nI_add, pk_mul, zs_sub, zs_lt, zs_le, zs_eq, zs_inb, zs_cl, zm_eq, zm_eq2, zm_lt, zm_le, mz_lt, mz_le, mm_eq, zs_bit, zs_or1, zs_div, zs_rem, ck_pos, if_pos, if_neg, true_or, or_true, true_and, and_true, false_or, or_false, false_and, and_false, not_true, not_false_iff, if_true, if_false, eq_self, Bool.false_eq_true, cl2_id, Bool.not_true, Bool.not_false]
    · simp (disch := omega) only [Nat.add_zero, hz, cl2_so, cl1_so, ck_tr, zl_0, zl_1, zl_2, zl_3, zl_4, zl_5, zl_6, zl_7, zl_8, zl_9, zl_10, zl_11, zl_12, zl_15, zl_16, zl_20, zl_24, zl_25, zl_30, zl_31, zl_32, zl_33, zl_44, zl_48, zl_50, zl_57, zl_59, zl_60, zl_61, zl_62, zl_63, zl_64, zl_68, zl_97, zl_99, zl_100, zl_104, zl_108, zl_114, zl_120, zl_122, zl_126, zl_132, zl_180, zl_181, zl_186, zl_255, zl_900, zl_930, zl_1000, zl_1000000, nI_add, pk_mul, zs_sub, zs_lt, zs_le, zs_eq, zs_inb, zs_cl, zm_eq, zm_eq2, zm_lt, zm_le, mz_lt, mz_le, mm_eq, zs_bit, zs_or1, zs_div, zs_rem, ck_pos, if_pos, if_neg, true_or, or_true, true_and, and_true, false_or, or_false, false_and, and_false, not_true, not_false_iff, if_true, if_false, eq_self, Bool.false_eq_true, cl2_id, Bool.not_true, Bool.not_false]
  | succ j ih =>
    intro k n q hk hn hq
    obtain ⟨n, rfl⟩ : ∃ n', n = n' + 1 := ⟨n - 1, by omega⟩
    have hb := z_show_lt hO.1.1 hv _ (getD_mem0 (show k < (z_show r side v 0).length by omega))
    have e1 := hml k (by omega)
    have e2 := hS (30 * side + (z_show r side v 0).getD k 0) (by omega)
    rw [fX11_ask_69, z_ct]
    unfold fX11_ask_105
    cases hu : (surR r).1 (30 * side + (z_show r side v 0).getD k 0) with
    | none =>
      rw [hu] at e2
      have e2' : m.1 154 (30 * side + (z_show r side v 0).getD k 0) = -nI 3 := e2
      simp (disch := omega) only [e1, e2', cl2_so, cl1_so, ck_tr, zl_0, zl_1, zl_2, zl_3, zl_4, zl_5, zl_6, zl_7, zl_8, zl_9, zl_10, zl_11, zl_12, zl_15, zl_16, zl_20, zl_24, zl_25, zl_30, zl_31, zl_32, zl_33, zl_44, zl_48, zl_50, zl_57, zl_59, zl_60, zl_61, zl_62, zl_63, zl_64, zl_68, zl_97, zl_99, zl_100, zl_104, zl_108, zl_114, zl_120, zl_122, zl_126, zl_132, zl_180, zl_181, zl_186, zl_255, zl_900, zl_930, zl_1000, zl_1000000, nI_add, pk_mul, zs_sub, zs_lt, zs_le, zs_eq, zs_inb, zs_cl, zm_eq, zm_eq2, zm_lt, zm_le, mz_lt, mz_le, mm_eq, zs_bit, zs_or1, zs_div, zs_rem, ck_pos, if_pos, if_neg, true_or, or_true, true_and, and_true, false_or, or_false, false_and, and_false, not_true, not_false_iff, if_true, if_false, eq_self, Bool.false_eq_true, cl2_id, Bool.not_true, Bool.not_false]
      rw [ih (k + 1) n (q + 1) (by omega) (by omega) (by omega)]
      simp only [Option.isSome, Bool.not_false, if_true, Nat.add_assoc]
    | some d =>
      rw [hu] at e2
      have e2' : m.1 154 (30 * side + (z_show r side v 0).getD k 0) = seenV d := e2
      have n3 := seenV_3 (hU _ _ hu)
      simp (disch := omega) only [e1, e2', n3, cl2_so, cl1_so, ck_tr, zl_0, zl_1, zl_2, zl_3, zl_4, zl_5, zl_6, zl_7, zl_8, zl_9, zl_10, zl_11, zl_12, zl_15, zl_16, zl_20, zl_24, zl_25, zl_30, zl_31, zl_32, zl_33, zl_44, zl_48, zl_50, zl_57, zl_59, zl_60, zl_61, zl_62, zl_63, zl_64, zl_68, zl_97, zl_99, zl_100, zl_104, zl_108, zl_114, zl_120, zl_122, zl_126, zl_132, zl_180, zl_181, zl_186, zl_255, zl_900, zl_930, zl_1000, zl_1000000, nI_add, pk_mul, zs_sub, zs_lt, zs_le, zs_eq, zs_inb, zs_cl, zm_eq, zm_eq2, zm_lt, zm_le, mz_lt, mz_le, mm_eq, zs_bit, zs_or1, zs_div, zs_rem, ck_pos, if_pos, if_neg, true_or, or_true, true_and, and_true, false_or, or_false, false_and, and_false, not_true, not_false_iff, if_true, if_false, eq_self, Bool.false_eq_true, cl2_id, Bool.not_true, Bool.not_false]
      rw [ih (k + 1) n (q + 0) (by omega) (by omega) (by omega)]
      simp only [Option.isSome, Bool.not_true, Bool.false_eq_true, if_false, Nat.add_zero, Nat.zero_add]
theorem as37 (hO : KO r s) {side : Nat} (hs : side ≤ 1) {k29 : Int32 → Int32 → Int32 → Me → Option (Int32 × Me)} : ∀ j k n b (m : Me), KM m r s → SM m (surR r).1 → k + j = z_mo r + 1 → j < n → b.2 ≤ 30 → ∃ m', fX11_ask_37 n k29 (clI b.1) (nI b.2) (nI side) (nI k) m = k29 (clI (askL r side k j b).1) (nI (askL r side k j b).2) (nI (side + 1)) m' ∧ Ak sN m m' ∧ KM m' r s ∧ SM m' (surR r).1 ∧ (askL r side k j b).2 ≤ 30 := by
  have hmo := z_mo_le hO.1.1
  intro j
  induction j with
  | zero =>
    intro k n b m h hS hk hn hb
    obtain ⟨n, rfl⟩ : ∃ n', n = n' + 1 := ⟨n - 1, by omega⟩
    refine ⟨m, ?_, Ak.rf m, h, hS, hb⟩
    rw [fX11_ask_37]
    simp (disch := omega) only [h.mostOpen hO, askL, cl2_so, cl1_so, ck_tr, zl_0, zl_1, zl_2, zl_3, zl_4, zl_5, zl_6, zl_7, zl_8, zl_9, zl_10, zl_11, zl_12, zl_15, zl_16, zl_20, zl_24, zl_25, zl_30, zl_31, zl_32, zl_33, zl_44, zl_48, zl_50, zl_57, zl_59, zl_60, zl_61, zl_62, zl_63, zl_64, zl_68, zl_97, zl_99, zl_100, zl_104, zl_108, zl_114, zl_120, zl_122, zl_126, zl_132, zl_180, zl_181, zl_186, zl_255, zl_900, zl_930, zl_1000, zl_1000000, nI_add, pk_mul, zs_sub, zs_lt, zs_le, zs_eq, zs_inb, zs_cl, zm_eq, zm_eq2, zm_lt, zm_le, mz_lt, mz_le, mm_eq, zs_bit, zs_or1, zs_div, zs_rem, ck_pos, if_pos, if_neg, true_or, or_true, true_and, and_true, false_or, or_false, false_and, and_false, not_true, not_false_iff, if_true, if_false, eq_self, Bool.false_eq_true, cl2_id, Bool.not_true, Bool.not_false]
  | succ j ih =>
    intro k n b m h hS hk hn hb
    obtain ⟨n, rfl⟩ : ∃ n', n = n' + 1 := ⟨n - 1, by omega⟩
    have h30 := z_show_len hO.1.1 (side := side) (op := k) (br := 0) (by omega)
    have el := h.lay hO (side := side) (op := k) (br := 0) hs (by omega) (by omega)
    have hA := ak_146 (m := m) (z_show r side k 0)
    have hK := h.ag hA.agN
    have hS2 : SM (wl m 147 0 (z_show r side k 0)) (surR r).1 := hS.ak (fun i => wl_na (by decide))
    have e69 := as69 (x1 := clI b.1) hK hO hS2 hs (v := k) (by omega) (ML_wl _) (k29 := k29) (k37 := fX11_ask_37 n k29) hb (z_show r side k 0).length 0 FU 0 (by omega) (FU_pos (by omega)) (by omega)
    rw [Nat.zero_add] at e69
    have hu := uns_le hO (side := side) (v := k) (by omega)
    rw [fX11_ask_37, askL]
    by_cases hq : b.2 < uns r side k
    · rw [if_pos hq]
      obtain ⟨m2, f1, f2, f3, f4, f5⟩ := ih (k + 1) n (some (50 * side + k), uns r side k) _ hK hS2 (by omega) (by omega) hu
      refine ⟨m2, ?_, hA.tr f2, f3, f4, f5⟩
      rw [if_pos (by exact hq)] at e69
      simp (disch := omega) only [h.mostOpen hO, el, cl2_so, cl1_so, ck_tr, zl_0, zl_1, zl_2, zl_3, zl_4, zl_5, zl_6, zl_7, zl_8, zl_9, zl_10, zl_11, zl_12, zl_15, zl_16, zl_20, zl_24, zl_25, zl_30, zl_31, zl_32, zl_33, zl_44, zl_48, zl_50, zl_57, zl_59, zl_60, zl_61, zl_62, zl_63, zl_64, zl_68, zl_97, zl_99, zl_100, zl_104, zl_108, zl_114, zl_120, zl_122, zl_126, zl_132, zl_180, zl_181, zl_186, zl_255, zl_900, zl_930, zl_1000, zl_1000000, nI_add, pk_mul, zs_sub, zs_lt, zs_le, zs_eq, zs_inb, zs_cl, zm_eq, zm_eq2, zm_lt, zm_le, mz_lt, mz_le, mm_eq, zs_bit, zs_or1, zs_div, zs_rem, ck_pos, if_pos, if_neg, true_or, or_true, true_and, and_true, false_or, or_false, false_and, and_false, not_true, not_false_iff, if_true, if_false, eq_self, Bool.false_eq_true, cl2_id, Bool.not_true, Bool.not_false]
      exact e69.trans f1
    · rw [if_neg hq]
      obtain ⟨m2, f1, f2, f3, f4, f5⟩ := ih (k + 1) n b _ hK hS2 (by omega) (by omega) hb
      refine ⟨m2, ?_, hA.tr f2, f3, f4, f5⟩
      rw [if_neg (by exact hq)] at e69
      simp (disch := omega) only [h.mostOpen hO, el, cl2_so, cl1_so, ck_tr, zl_0, zl_1, zl_2, zl_3, zl_4, zl_5, zl_6, zl_7, zl_8, zl_9, zl_10, zl_11, zl_12, zl_15, zl_16, zl_20, zl_24, zl_25, zl_30, zl_31, zl_32, zl_33, zl_44, zl_48, zl_50, zl_57, zl_59, zl_60, zl_61, zl_62, zl_63, zl_64, zl_68, zl_97, zl_99, zl_100, zl_104, zl_108, zl_114, zl_120, zl_122, zl_126, zl_132, zl_180, zl_181, zl_186, zl_255, zl_900, zl_930, zl_1000, zl_1000000, nI_add, pk_mul, zs_sub, zs_lt, zs_le, zs_eq, zs_inb, zs_cl, zm_eq, zm_eq2, zm_lt, zm_le, mz_lt, mz_le, mm_eq, zs_bit, zs_or1, zs_div, zs_rem, ck_pos, if_pos, if_neg, true_or, or_true, true_and, and_true, false_or, or_false, false_and, and_false, not_true, not_false_iff, if_true, if_false, eq_self, Bool.false_eq_true, cl2_id, Bool.not_true, Bool.not_false]
      exact e69.trans f1
def askR (r : Nat → Nat) : Option Nat × Nat := askL r 1 0 (z_mo r + 1) (askL r 0 0 (z_mo r + 1) (none, 0))
theorem b_ask (hI : Inv m) (hC : JC m H r s) (hM : JM m H r s) (hO : JO H r s) (hS : H = true → SC m r) : Both fX10_ask fX11_ask m := by
  cases H
  · refine ⟨-nI 1, 1, ?_, fun m1 h1 => ?_⟩
    · have e : m.1 0 4 = nI 0 := hC.1
      unfold fX10_ask
      simp (disch := omega) only [e, cl2_so, cl1_so, ck_tr, zl_0, zl_1, zl_2, zl_3, zl_4, zl_5, zl_6, zl_7, zl_8, zl_9, zl_10, zl_11, zl_12, zl_15, zl_16, zl_20, zl_24, zl_25, zl_30, zl_31, zl_32, zl_33, zl_44, zl_48, zl_50, zl_57, zl_59, zl_60, zl_61, zl_62, zl_63, zl_64, zl_68, zl_97, zl_99, zl_100, zl_104, zl_108, zl_114, zl_120, zl_122, zl_126, zl_132, zl_180, zl_181, zl_186, zl_255, zl_900, zl_930, zl_1000, zl_1000000, nI_add, pk_mul, zs_sub, zs_lt, zs_le, zs_eq, zs_inb, zs_cl, zm_eq, zm_eq2, zm_lt, zm_le, mz_lt, mz_le, mm_eq, zs_bit, zs_or1, zs_div, zs_rem, ck_pos, if_pos, if_neg, true_or, or_true, true_and, and_true, false_or, or_false, false_and, and_false, not_true, not_false_iff, if_true, if_false, eq_self, Bool.false_eq_true, cl2_id, Bool.not_true, Bool.not_false]
      exact ansC_no 1 (Ak.rf m)
    · have hM1 := hM.ag (h1.agC.tr (gd_ak m1).agM)
      have e : (gdM m1).1 138 14 = nI 0 := hM1.1
      unfold fX11_ask
      simp (disch := omega) only [gd_e, e, cl2_so, cl1_so, ck_tr, zl_0, zl_1, zl_2, zl_3, zl_4, zl_5, zl_6, zl_7, zl_8, zl_9, zl_10, zl_11, zl_12, zl_15, zl_16, zl_20, zl_24, zl_25, zl_30, zl_31, zl_32, zl_33, zl_44, zl_48, zl_50, zl_57, zl_59, zl_60, zl_61, zl_62, zl_63, zl_64, zl_68, zl_97, zl_99, zl_100, zl_104, zl_108, zl_114, zl_120, zl_122, zl_126, zl_132, zl_180, zl_181, zl_186, zl_255, zl_900, zl_930, zl_1000, zl_1000000, nI_add, pk_mul, zs_sub, zs_lt, zs_le, zs_eq, zs_inb, zs_cl, zm_eq, zm_eq2, zm_lt, zm_le, mz_lt, mz_le, mm_eq, zs_bit, zs_or1, zs_div, zs_rem, ck_pos, if_pos, if_neg, true_or, or_true, true_and, and_true, false_or, or_false, false_and, and_false, not_true, not_false_iff, if_true, if_false, eq_self, Bool.false_eq_true, cl2_id, Bool.not_true, Bool.not_false]
      exact ansM_no 1 (gd_ak m1)
  · have hK : KO r s := hO rfl
    have hmo := z_mo_le hK.1.1
    refine ⟨clI (askR r).1, 0, ?_, fun m1 h1 => ?_⟩
    · have e0 : m.1 0 4 = nI 1 := hC.1
      obtain ⟨m2, e2, a2, b2, c2, d2⟩ := ak28 hK (side := 0) (by omega) (k20 := fX10_ask_20 1999) (z_mo r + 1) 0 FU (none, 0) m (hC.kc hI) (hS rfl) (by omega) (FU_pos (by omega)) (by decide)
      obtain ⟨m3, e3, a3, b3, c3, d3⟩ := ak28 hK (side := 1) (by omega) (k20 := fX10_ask_20 1998) (z_mo r + 1) 0 FU _ m2 b2 c2 (by omega) (FU_pos (by omega)) d2
      have g0 : fX10_ask_20 FU (-nI 2) (nI 0) (nI 0) m = fX10_ask_20 1999 (clI (askL r 0 0 (z_mo r + 1) (none, 0)).1) (nI (askL r 0 0 (z_mo r + 1) (none, 0)).2) (nI 1) m2 := by
        rw [show FU = 1999 + 1 from rfl, fX10_ask_20]
        simp (disch := omega) only [cl2_so, cl1_so, ck_tr, zl_0, zl_1, zl_2, zl_3, zl_4, zl_5, zl_6, zl_7, zl_8, zl_9, zl_10, zl_11, zl_12, zl_15, zl_16, zl_20, zl_24, zl_25, zl_30, zl_31, zl_32, zl_33, zl_44, zl_48, zl_50, zl_57, zl_59, zl_60, zl_61, zl_62, zl_63, zl_64, zl_68, zl_97, zl_99, zl_100, zl_104, zl_108, zl_114, zl_120, zl_122, zl_126, zl_132, zl_180, zl_181, zl_186, zl_255, zl_900, zl_930, zl_1000, zl_1000000, nI_add, pk_mul, zs_sub, zs_lt, zs_le, zs_eq, zs_inb, zs_cl, zm_eq, zm_eq2, zm_lt, zm_le, mz_lt, mz_le, mm_eq, zs_bit, zs_or1, zs_div, zs_rem, ck_pos, if_pos, if_neg, true_or, or_true, true_and, and_true, false_or, or_false, false_and, and_false, not_true, not_false_iff, if_true, if_false, eq_self, Bool.false_eq_true, cl2_id, Bool.not_true, Bool.not_false]
        exact e2
      have g1 : fX10_ask_20 1999 (clI (askL r 0 0 (z_mo r + 1) (none, 0)).1) (nI (askL r 0 0 (z_mo r + 1) (none, 0)).2) (nI 1) m2 = fX10_ask_20 1998 (clI (askR r).1) (nI (askR r).2) (nI 2) m3 := by
        rw [show 1999 = 1998 + 1 from rfl, fX10_ask_20]
        simp (disch := omega) only [cl2_so, cl1_so, ck_tr, zl_0, zl_1, zl_2, zl_3, zl_4, zl_5, zl_6, zl_7, zl_8, zl_9, zl_10, zl_11, zl_12, zl_15, zl_16, zl_20, zl_24, zl_25, zl_30, zl_31, zl_32, zl_33, zl_44, zl_48, zl_50, zl_57, zl_59, zl_60, zl_61, zl_62, zl_63, zl_64, zl_68, zl_97, zl_99, zl_100, zl_104, zl_108, zl_114, zl_120, zl_122, zl_126, zl_132, zl_180, zl_181, zl_186, zl_255, zl_900, zl_930, zl_1000, zl_1000000, nI_add, pk_mul, zs_sub, zs_lt, zs_le, zs_eq, zs_inb, zs_cl, zm_eq, zm_eq2, zm_lt, zm_le, mz_lt, mz_le, mm_eq, zs_bit, zs_or1, zs_div, zs_rem, ck_pos, if_pos, if_neg, true_or, or_true, true_and, and_true, false_or, or_false, false_and, and_false, not_true, not_false_iff, if_true, if_false, eq_self, Bool.false_eq_true, cl2_id, Bool.not_true, Bool.not_false]
        exact e3
      have g2 : fX10_ask_20 1998 (clI (askR r).1) (nI (askR r).2) (nI 2) m3 = fX10_answer (clI (askR r).1) m3 := by
        rw [show 1998 = 1997 + 1 from rfl, fX10_ask_20]
        simp (disch := omega) only [cl2_so, cl1_so, ck_tr, zl_0, zl_1, zl_2, zl_3, zl_4, zl_5, zl_6, zl_7, zl_8, zl_9, zl_10, zl_11, zl_12, zl_15, zl_16, zl_20, zl_24, zl_25, zl_30, zl_31, zl_32, zl_33, zl_44, zl_48, zl_50, zl_57, zl_59, zl_60, zl_61, zl_62, zl_63, zl_64, zl_68, zl_97, zl_99, zl_100, zl_104, zl_108, zl_114, zl_120, zl_122, zl_126, zl_132, zl_180, zl_181, zl_186, zl_255, zl_900, zl_930, zl_1000, zl_1000000, nI_add, pk_mul, zs_sub, zs_lt, zs_le, zs_eq, zs_inb, zs_cl, zm_eq, zm_eq2, zm_lt, zm_le, mz_lt, mz_le, mm_eq, zs_bit, zs_or1, zs_div, zs_rem, ck_pos, if_pos, if_neg, true_or, or_true, true_and, and_true, false_or, or_false, false_and, and_false, not_true, not_false_iff, if_true, if_false, eq_self, Bool.false_eq_true, cl2_id, Bool.not_true, Bool.not_false]
      unfold fX10_ask
      simp (disch := omega) only [e0, cl2_so, cl1_so, ck_tr, zl_0, zl_1, zl_2, zl_3, zl_4, zl_5, zl_6, zl_7, zl_8, zl_9, zl_10, zl_11, zl_12, zl_15, zl_16, zl_20, zl_24, zl_25, zl_30, zl_31, zl_32, zl_33, zl_44, zl_48, zl_50, zl_57, zl_59, zl_60, zl_61, zl_62, zl_63, zl_64, zl_68, zl_97, zl_99, zl_100, zl_104, zl_108, zl_114, zl_120, zl_122, zl_126, zl_132, zl_180, zl_181, zl_186, zl_255, zl_900, zl_930, zl_1000, zl_1000000, nI_add, pk_mul, zs_sub, zs_lt, zs_le, zs_eq, zs_inb, zs_cl, zm_eq, zm_eq2, zm_lt, zm_le, mz_lt, mz_le, mm_eq, zs_bit, zs_or1, zs_div, zs_rem, ck_pos, if_pos, if_neg, true_or, or_true, true_and, and_true, false_or, or_false, false_and, and_false, not_true, not_false_iff, if_true, if_false, eq_self, Bool.false_eq_true, cl2_id, Bool.not_true, Bool.not_false]
      rw [g0, g1, g2]
      exact ansC_ok _ (a2.tr a3)
    · have hM1 := hM.ag (h1.agC.tr (gd_ak m1).agM)
      have e0 : (gdM m1).1 138 14 = nI 1 := hM1.1
      obtain ⟨m9, e9, a9, b9, c9⟩ := hM1.km.laySure hK
      obtain ⟨m2, e2, a2, b2, c2, d2⟩ := as37 hK (side := 0) (by omega) (k29 := fX11_ask_29 1999) (z_mo r + 1) 0 FU (none, 0) m9 b9 c9 (by omega) (FU_pos (by omega)) (by decide)
      obtain ⟨m3, e3, a3, b3, c3, d3⟩ := as37 hK (side := 1) (by omega) (k29 := fX11_ask_29 1998) (z_mo r + 1) 0 FU _ m2 b2 c2 (by omega) (FU_pos (by omega)) d2
      have g0 : fX11_ask_29 FU (-nI 2) (nI 0) (nI 0) m9 = fX11_ask_29 1999 (clI (askL r 0 0 (z_mo r + 1) (none, 0)).1) (nI (askL r 0 0 (z_mo r + 1) (none, 0)).2) (nI 1) m2 := by
        rw [show FU = 1999 + 1 from rfl, fX11_ask_29]
        simp (disch := omega) only [cl2_so, cl1_so, ck_tr, zl_0, zl_1, zl_2, zl_3, zl_4, zl_5, zl_6, zl_7, zl_8, zl_9, zl_10, zl_11, zl_12, zl_15, zl_16, zl_20, zl_24, zl_25, zl_30, zl_31, zl_32, zl_33, zl_44, zl_48, zl_50, zl_57, zl_59, zl_60, zl_61, zl_62, zl_63, zl_64, zl_68, zl_97, zl_99, zl_100, zl_104, zl_108, zl_114, zl_120, zl_122, zl_126, zl_132, zl_180, zl_181, zl_186, zl_255, zl_900, zl_930, zl_1000, zl_1000000, nI_add, pk_mul, zs_sub, zs_lt, zs_le, zs_eq, zs_inb, zs_cl, zm_eq, zm_eq2, zm_lt, zm_le, mz_lt, mz_le, mm_eq, zs_bit, zs_or1, zs_div, zs_rem, ck_pos, if_pos, if_neg, true_or, or_true, true_and, and_true, false_or, or_false, false_and, and_false, not_true, not_false_iff, if_true, if_false, eq_self, Bool.false_eq_true, cl2_id, Bool.not_true, Bool.not_false]
        exact e2
      have g1 : fX11_ask_29 1999 (clI (askL r 0 0 (z_mo r + 1) (none, 0)).1) (nI (askL r 0 0 (z_mo r + 1) (none, 0)).2) (nI 1) m2 = fX11_ask_29 1998 (clI (askR r).1) (nI (askR r).2) (nI 2) m3 := by
        rw [show 1999 = 1998 + 1 from rfl, fX11_ask_29]
        simp (disch := omega) only [cl2_so, cl1_so, ck_tr, zl_0, zl_1, zl_2, zl_3, zl_4, zl_5, zl_6, zl_7, zl_8, zl_9, zl_10, zl_11, zl_12, zl_15, zl_16, zl_20, zl_24, zl_25, zl_30, zl_31, zl_32, zl_33, zl_44, zl_48, zl_50, zl_57, zl_59, zl_60, zl_61, zl_62, zl_63, zl_64, zl_68, zl_97, zl_99, zl_100, zl_104, zl_108, zl_114, zl_120, zl_122, zl_126, zl_132, zl_180, zl_181, zl_186, zl_255, zl_900, zl_930, zl_1000, zl_1000000, nI_add, pk_mul, zs_sub, zs_lt, zs_le, zs_eq, zs_inb, zs_cl, zm_eq, zm_eq2, zm_lt, zm_le, mz_lt, mz_le, mm_eq, zs_bit, zs_or1, zs_div, zs_rem, ck_pos, if_pos, if_neg, true_or, or_true, true_and, and_true, false_or, or_false, false_and, and_false, not_true, not_false_iff, if_true, if_false, eq_self, Bool.false_eq_true, cl2_id, Bool.not_true, Bool.not_false]
        exact e3
      have g2 : fX11_ask_29 1998 (clI (askR r).1) (nI (askR r).2) (nI 2) m3 = some (clI (askR r).1, m3) := by
        rw [show 1998 = 1997 + 1 from rfl, fX11_ask_29]
        simp (disch := omega) only [cl2_so, cl1_so, ck_tr, zl_0, zl_1, zl_2, zl_3, zl_4, zl_5, zl_6, zl_7, zl_8, zl_9, zl_10, zl_11, zl_12, zl_15, zl_16, zl_20, zl_24, zl_25, zl_30, zl_31, zl_32, zl_33, zl_44, zl_48, zl_50, zl_57, zl_59, zl_60, zl_61, zl_62, zl_63, zl_64, zl_68, zl_97, zl_99, zl_100, zl_104, zl_108, zl_114, zl_120, zl_122, zl_126, zl_132, zl_180, zl_181, zl_186, zl_255, zl_900, zl_930, zl_1000, zl_1000000, nI_add, pk_mul, zs_sub, zs_lt, zs_le, zs_eq, zs_inb, zs_cl, zm_eq, zm_eq2, zm_lt, zm_le, mz_lt, mz_le, mm_eq, zs_bit, zs_or1, zs_div, zs_rem, ck_pos, if_pos, if_neg, true_or, or_true, true_and, and_true, false_or, or_false, false_and, and_false, not_true, not_false_iff, if_true, if_false, eq_self, Bool.false_eq_true, cl2_id, Bool.not_true, Bool.not_false]
      unfold fX11_ask
      simp (disch := omega) only [gd_e, e0, e9, cl2_so, cl1_so, ck_tr, zl_0, zl_1, zl_2, zl_3, zl_4, zl_5, zl_6, zl_7, zl_8, zl_9, zl_10, zl_11, zl_12, zl_15, zl_16, zl_20, zl_24, zl_25, zl_30, zl_31, zl_32, zl_33, zl_44, zl_48, zl_50, zl_57, zl_59, zl_60, zl_61, zl_62, zl_63, zl_64, zl_68, zl_97, zl_99, zl_100, zl_104, zl_108, zl_114, zl_120, zl_122, zl_126, zl_132, zl_180, zl_181, zl_186, zl_255, zl_900, zl_930, zl_1000, zl_1000000, nI_add, pk_mul, zs_sub, zs_lt, zs_le, zs_eq, zs_inb, zs_cl, zm_eq, zm_eq2, zm_lt, zm_le, mz_lt, mz_le, mm_eq, zs_bit, zs_or1, zs_div, zs_rem, ck_pos, if_pos, if_neg, true_or, or_true, true_and, and_true, false_or, or_false, false_and, and_false, not_true, not_false_iff, if_true, if_false, eq_self, Bool.false_eq_true, cl2_id, Bool.not_true, Bool.not_false]
      rw [g0, g1, g2]
      exact ansN_ok _ ((a9.tr a2).tr a3)
end C16
