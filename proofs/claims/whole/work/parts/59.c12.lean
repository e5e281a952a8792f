/-! what is sure: clash, sure, sureCells, fits, ask -/
def updU (U : Nat → Option Nat) (i v : Nat) : Nat → Option Nat := fun k => if k = i then some v else U k
def zL0 (r : Nat → Nat) (q : Nat) : List Nat := z_show r (r (108 + q)) (r (114 + q)) 0
def sid (r : Nat → Nat) (q k : Nat) : Nat := 30 * r (108 + q) + (zL0 r q).getD (r (120 + q) + k) 0
def okU (r : Nat → Nat) (q : Nat) (U : Nat → Option Nat) (k : Nat) : Bool := match U (sid r q k) with
  | none => true
  | some c => decide (c = r (132 + 8 * q + k))
def lrn (r : Nat → Nat) (q : Nat) : Nat → Nat → (Nat → Option Nat) → Nat → Option Nat
  | _, 0, U => U
  | k, j + 1, U => lrn r q (k + 1) j (updU U (sid r q k) (r (132 + 8 * q + k)))
def sur (r : Nat → Nat) : Nat → Nat → (Nat → Option Nat) → (Nat → Option Nat) × Option Nat
  | _, 0, U => (U, none)
  | q, j + 1, U => if z_al (okU r q U) 0 (r (126 + q)) then sur r (q + 1) j (lrn r q 0 (r (126 + q)) U) else (U, some q)
def surR (r : Nat → Nat) : (Nat → Option Nat) × Option Nat := sur r 0 (r 7) (fun _ => none)
def uS : Option Nat → Int32
  | none => -nI 3
  | some c => seenV c
def uI : Option Nat → Int32
  | none => -nI 3
  | some c => nI c
def clI : Option Nat → Int32
  | none => -nI 2
  | some q => nI q
def UOK (U : Nat → Option Nat) : Prop := ∀ k c, U k = some c → c ≤ 25
theorem UOK.upd {U : Nat → Option Nat} (h : UOK U) {i v : Nat} (hv : v ≤ 25) : UOK (updU U i v) := fun k c e => by
  unfold updU at e
  split at e
  · have := Option.some.inj e; omega
  · exact h k c e
theorem seenV_inj {a b : Nat} (ha : a ≤ 25) (hb : b ≤ 25) : seenV a = seenV b ↔ a = b := by
  unfold seenV
  by_cases h1 : a = 25 <;> by_cases h2 : b = 25
  · simp [h1, h2]
  · rw [if_pos h1, if_neg h2, zm_eq2 (by omega) (by omega)]
    constructor
    · intro q; omega
    · intro q; omega
  · rw [if_neg h1, if_pos h2, zm_eq (by omega) (by omega)]
    constructor
    · intro q; omega
    · intro q; omega
  · rw [if_neg h1, if_neg h2, zs_eq (by omega) (by omega)]
theorem seenV_3 {a : Nat} (ha : a ≤ 25) : ¬ seenV a = -nI 3 := by
  unfold seenV
  by_cases h1 : a = 25
  · rw [if_pos h1, mm_eq (by omega) (by omega)]
    omega
  · rw [if_neg h1, zm_eq (by omega) (by omega)]
    omega
theorem show_cell {r : Nat → Nat} (hf : z_fan r) {side op br x : Nat} (ho : op ≤ z_mo r) (h : x ∈ z_show r side op br) : ∃ rib c, rib < r 0 ∧ c < r 1 ∧ x = 3 * rib + c := by
  unfold z_show at h
  rw [mem_from] at h
  obtain ⟨i, -, h2, h3⟩ := h
  unfold z_seg at h3
  split at h3
  · cases h3
  · rw [List.mem_map] at h3
    obtain ⟨c, hc, rfl⟩ := h3
    rw [List.mem_range] at hc
    have := z_op_le hf (k := i) (rib := z_rib r side i) ho
    exact ⟨_, c, z_rib_lt (by omega), by omega, rfl⟩
section C15
variable {m : Me} {H : Bool} {t : Nat} {r s : Nat → Nat} {x1 x2 x3 x4 : Int32}
theorem sid_ok (h : OKr r) {q k : Nat} (hq : q < r 7) (hk : k < r (126 + q)) : r (120 + q) + k < (zL0 r q).length ∧ (zL0 r q).length ≤ 30 ∧ r (108 + q) ≤ 1 ∧ ∃ rib c, rib < r 0 ∧ c < r 1 ∧ (zL0 r q).getD (r (120 + q) + k) 0 = 3 * rib + c := by
  obtain ⟨-, -, o1, o2, o3, -⟩ := h.2.2.2.2.2.2.2.2.2.1 q hq
  have hl : r (120 + q) + k < (zL0 r q).length := by unfold zL0; omega
  obtain ⟨rib, c, a, b, e⟩ := show_cell h.1 o2 (getD_mem0 (l := zL0 r q) hl)
  exact ⟨hl, z_show_len h.1 o2, o1, rib, c, a, b, e⟩
theorem seen_b (h : OKr r) {q k : Nat} (hq : q < r 7) (hk : k < r (126 + q)) : r (132 + 8 * q + k) ≤ 25 ∧ r (126 + q) ≤ 8 ∧ r 7 ≤ 6 := ⟨(h.2.2.2.2.2.2.2.2.2.1 q hq).2.2.2.2.2 k hk, (h.2.2.2.2.2.2.2.2.2.1 q hq).2.1, h.2.2.2.2.2.1⟩
theorem lrn_ok (h : OKr r) {q : Nat} (hq : q < r 7) : ∀ j k U, UOK U → k + j = r (126 + q) → UOK (lrn r q k j U)
  | 0, k, U, hU, _ => hU
  | j + 1, k, U, hU, hk => by
    rw [lrn]
    exact lrn_ok h hq j (k + 1) _ (hU.upd (seen_b h hq (by omega)).1) (by omega)
theorem sur_ok (h : OKr r) : ∀ j q U, UOK U → q + j = r 7 → UOK (sur r q j U).1
  | 0, q, U, hU, _ => hU
  | j + 1, q, U, hU, hq => by
    rw [sur]
    split
    · exact sur_ok h j (q + 1) _ (lrn_ok h (by omega) _ 0 U hU (by omega)) (by omega)
    · exact hU
theorem surR_ok (h : OKr r) : UOK (surR r).1 := sur_ok h (r 7) 0 _ (fun k c e => by cases e) (by omega)
def SM (m : Me) (U : Nat → Option Nat) : Prop := ∀ k, k < 60 → m.1 154 k = uS (U k)
theorem SM.ak {m' : Me} {U : Nat → Option Nat} (h : SM m U) (h' : ∀ k, m'.1 154 k = m.1 154 k) : SM m' U := fun k hk => (h' k).trans (h k hk)
theorem ls65 (h : KM m r s) (hO : KO r s) {q : Nat} (hq : q < r 7) (hml : ML146 m (zL0 r q)) {U : Nat → Option Nat} (hU : UOK U) (hS : SM m U) {k24 : Int32 → Me → Option (Int32 × Me)} : ∀ j k n, k + j = r (126 + q) → j < n → fX11_laySure_65 n k24 (nI q) (nI k) m = if z_al (okU r q U) k j then fX11_laySure_156 FU k24 (nI q) (nI 0) m else some (nI q, m) := by
  have hr7 := hO.1.2.2.2.2.2.1
  intro j
  induction j with
  | zero =>
    intro k n hk hn
    obtain ⟨n, rfl⟩ : ∃ n', n = n' + 1 := ⟨n - 1, by omega⟩
    obtain ⟨-, o8, o1, o2, o3, -⟩ := hO.1.2.2.2.2.2.2.2.2.2.1 q hq
    rw [fX11_laySure_65, z_al]
    simp (disch := omega) only [h.2.1 (126 + q) (by omega), cl2_so, cl1_so, ck_tr, zl_0, zl_1, zl_2, zl_3, zl_4, zl_5, zl_6, zl_7, zl_8, zl_9, zl_10, zl_11, zl_12, zl_15, zl_16, zl_20, zl_24, zl_25, zl_30, zl_31, zl_32, zl_33, zl_44, zl_48, zl_50, zl_57, zl_59, zl_60, zl_61, zl_62, zl_63, zl_64, zl_68, zl_97, zl_99, zl_100, zl_104, zl_108, zl_114, zl_120, zl_122, zl_126, zl_132, zl_180, zl_181, zl_186, zl_255, zl_900, zl_930, zl_1000, zl_1000000, nI_add, pk_mul, zs_sub, zs_lt, zs_le, zs_eq, zs_inb, zs_cl, zm_eq, zm_eq2, zm_lt, zm_le, mz_lt, mz_le, mm_eq, zs_bit, zs_or1, zs_div, zs_rem, ck_pos, if_pos, if_neg, true_or, or_true, true_and, and_true, false_or, or_false, false_and, and_false, not_true, not_false_iff, if_true, if_false, eq_self, Bool.false_eq_true, cl2_id, Bool.not_true, Bool.not_false]
  | succ j ih =>
    intro k n hk hn
    obtain ⟨n, rfl⟩ : ∃ n', n = n' + 1 := ⟨n - 1, by omega⟩
    obtain ⟨sl, sl2, o1, rib, c, hr, hc, es⟩ := sid_ok hO.1 hq (k := k) (by omega)
    obtain ⟨b1, b2, b3⟩ := seen_b hO.1 hq (k := k) (by omega)
    obtain ⟨f0, f1, f2, f3, f4⟩ := hO.1.1
    have e1 := h.2.1 (126 + q) (by omega)
    have e2 := h.2.1 (108 + q) (by omega)
    have e3 := h.2.1 (120 + q) (by omega)
    have e4 := h.2.1 (132 + 8 * q + k) (by omega)
    have e5 := hml (r (120 + q) + k) sl
    have e6 := hS (30 * r (108 + q) + (zL0 r q).getD (r (120 + q) + k) 0) (by omega)
    have e7 := fX11_seenAs_e (x := r (132 + 8 * q + k)) (by omega) m
    have b20 := hO.1.2.1 (120 + q) (by omega)
    have ih' := ih (k + 1) n (by omega) (by omega)
    rw [fX11_laySure_65, z_al]
    unfold fX11_laySure_148
    have eo : okU r q U k = (match U (30 * r (108 + q) + (zL0 r q).getD (r (120 + q) + k) 0) with | none => true | some c => decide (c = r (132 + 8 * q + k))) := rfl
    rw [eo]
    generalize hX : (zL0 r q).getD (r (120 + q) + k) 0 = X at e5 e6 es ⊢
    cases hu : U (30 * r (108 + q) + X) with
    | none =>
      rw [hu] at e6
      have e6' : m.1 154 (30 * r (108 + q) + X) = -nI 3 := e6
      simp only [Bool.true_and]
      simp (disch := omega) only [e1, e2, e3, e5, e6', cl2_so, cl1_so, ck_tr, zl_0, zl_1, zl_2, zl_3, zl_4, zl_5, zl_6, zl_7, zl_8, zl_9, zl_10, zl_11, zl_12, zl_15, zl_16, zl_20, zl_24, zl_25, zl_30, zl_31, zl_32, zl_33, zl_44, zl_48, zl_50, zl_57, zl_59, zl_60, zl_61, zl_62, zl_63, zl_64, zl_68, zl_97, zl_99, zl_100, zl_104, zl_108, zl_114, zl_120, zl_122, zl_126, zl_132, zl_180, zl_181, zl_186, zl_255, zl_900, zl_930, zl_1000, zl_1000000, nI_add, pk_mul, zs_sub, zs_lt, zs_le, zs_eq, zs_inb, zs_cl, zm_eq, zm_eq2, zm_lt, zm_le, mz_lt, mz_le, mm_eq, zs_bit, zs_or1, zs_div, zs_rem, ck_pos, if_pos, if_neg, true_or, or_true, true_and, and_true, false_or, or_false, false_and, and_false, not_true, not_false_iff, if_true, if_false, eq_self, Bool.false_eq_true, cl2_id, Bool.not_true, Bool.not_false]
      exact ih'
    | some d =>
      rw [hu] at e6
      have hd := hU _ _ hu
      have e6' : m.1 154 (30 * r (108 + q) + X) = seenV d := e6
      have n3 := seenV_3 hd
      have hi := seenV_inj hd b1
      by_cases hdd : d = r (132 + 8 * q + k)
      · have hi' := hi.mpr hdd
        simp only [decide_eq_true hdd, Bool.true_and]
        simp (disch := omega) only [e1, e2, e3, e4, e5, e6', n3, e7, hi', ite_self, cl2_so, cl1_so, ck_tr, zl_0, zl_1, zl_2, zl_3, zl_4, zl_5, zl_6, zl_7, zl_8, zl_9, zl_10, zl_11, zl_12, zl_15, zl_16, zl_20, zl_24, zl_25, zl_30, zl_31, zl_32, zl_33, zl_44, zl_48, zl_50, zl_57, zl_59, zl_60, zl_61, zl_62, zl_63, zl_64, zl_68, zl_97, zl_99, zl_100, zl_104, zl_108, zl_114, zl_120, zl_122, zl_126, zl_132, zl_180, zl_181, zl_186, zl_255, zl_900, zl_930, zl_1000, zl_1000000, nI_add, pk_mul, zs_sub, zs_lt, zs_le, zs_eq, zs_inb, zs_cl, zm_eq, zm_eq2, zm_lt, zm_le, mz_lt, mz_le, mm_eq, zs_bit, zs_or1, zs_div, zs_rem, ck_pos, if_pos, if_neg, true_or, or_true, true_and, and_true, false_or, or_false, false_and, and_false, not_true, not_false_iff, if_true, if_false, eq_self, Bool.false_eq_true, cl2_id, Bool.not_true, Bool.not_false]
        exact ih'
      · have hi' : ¬ seenV d = seenV (r (132 + 8 * q + k)) := fun z => hdd (hi.mp z)
        simp only [decide_eq_false hdd, Bool.false_and]
        simp (disch := omega) only [e1, e2, e3, e4, e5, e6', n3, e7, hi', cl2_so, cl1_so, ck_tr, zl_0, zl_1, zl_2, zl_3, zl_4, zl_5, zl_6, zl_7, zl_8, zl_9, zl_10, zl_11, zl_12, zl_15, zl_16, zl_20, zl_24, zl_25, zl_30, zl_31, zl_32, zl_33, zl_44, zl_48, zl_50, zl_57, zl_59, zl_60, zl_61, zl_62, zl_63, zl_64, zl_68, zl_97, zl_99, zl_100, zl_104, zl_108, zl_114, zl_120, zl_122, zl_126, zl_132, zl_180, zl_181, zl_186, zl_255, zl_900, zl_930, zl_1000, zl_1000000, nI_add, pk_mul, zs_sub, zs_lt, zs_le, zs_eq, zs_inb, zs_cl, zm_eq, zm_eq2, zm_lt, zm_le, mz_lt, mz_le, mm_eq, zs_bit, zs_or1, zs_div, zs_rem, ck_pos, if_pos, if_neg, true_or, or_true, true_and, and_true, false_or, or_false, false_and, and_false, not_true, not_false_iff, if_true, if_false, eq_self, Bool.false_eq_true, cl2_id, Bool.not_true, Bool.not_false]
theorem ls156 (hO : KO r s) {q : Nat} (hq : q < r 7) {k24 : Int32 → Me → Option (Int32 × Me)} : ∀ j k n U (m : Me), KM m r s → ML146 m (zL0 r q) → SM m U → k + j = r (126 + q) → j < n → ∃ m', fX11_laySure_156 n k24 (nI q) (nI k) m = k24 (nI (q + 1)) m' ∧ Ak sN m m' ∧ KM m' r s ∧ SM m' (lrn r q k j U) := by
  have hr7 := hO.1.2.2.2.2.2.1
  intro j
  induction j with
  | zero =>
    intro k n U m h hml hS hk hn
    obtain ⟨n, rfl⟩ : ∃ n', n = n' + 1 := ⟨n - 1, by omega⟩
    obtain ⟨-, o8, o1, o2, o3, -⟩ := hO.1.2.2.2.2.2.2.2.2.2.1 q hq
    refine ⟨m, ?_, Ak.rf m, h, hS⟩
    rw [fX11_laySure_156]
    simp (disch := omega) only [h.2.1 (126 + q) (by omega), cl2_so, cl1_so, ck_tr, zl_0, zl_1, zl_2, zl_3, zl_4, zl_5, zl_6, zl_7, zl_8, zl_9, zl_10, zl_11, zl_12, zl_15, zl_16, zl_20, zl_24, zl_25, zl_30, zl_31, zl_32, zl_33, zl_44, zl_48, zl_50, zl_57, zl_59, zl_60, zl_61, zl_62, zl_63, zl_64, zl_68, zl_97, zl_99, zl_100, zl_104, zl_108, zl_114, zl_120, zl_122, zl_126, zl_132, zl_180, zl_181, zl_186, zl_255, zl_900, zl_930, zl_1000, zl_1000000, nI_add, pk_mul, zs_sub, zs_lt, zs_le, zs_eq, zs_inb, zs_cl, zm_eq, zm_eq2, zm_lt, zm_le, mz_lt, mz_le, mm_eq, zs_bit, zs_or1, zs_div, zs_rem, ck_pos, if_pos, if_neg, true_or, or_true, true_and, and_true, false_or, or_false, false_and, and_false, not_true, not_false_iff, if_true, if_false, eq_self, Bool.false_eq_true, cl2_id, Bool.not_true, Bool.not_false]
  | succ j ih =>
    intro k n U m h hml hS hk hn
    obtain ⟨n, rfl⟩ : ∃ n', n = n' + 1 := ⟨n - 1, by omega⟩
    obtain ⟨sl, sl2, o1, rib, c, hr, hc, es⟩ := sid_ok hO.1 hq (k := k) (by omega)
    obtain ⟨b1, b2, b3⟩ := seen_b hO.1 hq (k := k) (by omega)
    obtain ⟨f0, f1, f2, f3, f4⟩ := hO.1.1
    have e1 := h.2.1 (126 + q) (by omega)
    have e2 := h.2.1 (108 + q) (by omega)
    have e3 := h.2.1 (120 + q) (by omega)
    have e4 := h.2.1 (132 + 8 * q + k) (by omega)
    have e5 := hml (r (120 + q) + k) sl
    have e7 := fX11_seenAs_e (x := r (132 + 8 * q + k)) (by omega) m
    have b20 := hO.1.2.1 (120 + q) (by omega)
    have hA : Ak sN m (setI m 154 (sid r q k) (seenV (r (132 + 8 * q + k)))) := (Ak.rf m).set _ (sN_in (by omega) _)
    obtain ⟨m2, g1, g2, g3, g4⟩ := ih (k + 1) n (updU U (sid r q k) (r (132 + 8 * q + k))) _ (h.ag hA.agN) (fun i hi => (sI_na (by decide)).trans (hml i hi)) (fun i hi => by
      unfold updU
      by_cases z : i = sid r q k
      · subst z; rw [sI_eq, if_pos rfl]; rfl
      · rw [sI_nj z, if_neg z]; exact hS i hi) (by omega) (by omega)
    refine ⟨m2, ?_, hA.tr g2, g3, g4⟩
    rw [fX11_laySure_156]
    unfold sid at g1
    generalize (zL0 r q).getD (r (120 + q) + k) 0 = X at e5 es g1 ⊢
    simp (disch := omega) only [e1, e2, e3, e4, e5, e7, cl2_so, cl1_so, ck_tr, zl_0, zl_1, zl_2, zl_3, zl_4, zl_5, zl_6, zl_7, zl_8, zl_9, zl_10, zl_11, zl_12, zl_15, zl_16, zl_20, zl_24, zl_25, zl_30, zl_31, zl_32, zl_33, zl_44, zl_48, zl_50, zl_57, zl_59, zl_60, zl_61, zl_62, zl_63, zl_64, zl_68, zl_97, zl_99, zl_100, zl_104, zl_108, zl_114, zl_120, zl_122, zl_126, zl_132, zl_180, zl_181, zl_186, zl_255, zl_900, zl_930, zl_1000, zl_1000000, nI_add, pk_mul, zs_sub, zs_lt, zs_le, zs_eq, zs_inb, zs_cl, zm_eq, zm_eq2, zm_lt, zm_le, mz_lt, mz_le, mm_eq, zs_bit, zs_or1, zs_div, zs_rem, ck_pos, if_pos, if_neg, true_or, or_true, true_and, and_true, false_or, or_false, false_and, and_false, not_true, not_false_iff, if_true, if_false, eq_self, Bool.false_eq_true, cl2_id, Bool.not_true, Bool.not_false]
    exact g1
theorem ls24 (hO : KO r s) : ∀ j q n U (m : Me), KM m r s → UOK U → SM m U → q + j = r 7 → j < n → ∃ m', fX11_laySure_24 n (nI q) m = some (clI (sur r q j U).2, m') ∧ Ak sN m m' ∧ KM m' r s ∧ SM m' (sur r q j U).1 := by
  have hr7 := hO.1.2.2.2.2.2.1
  intro j
  induction j with
  | zero =>
    intro q n U m h hU hS hq hn
    obtain ⟨n, rfl⟩ : ∃ n', n = n' + 1 := ⟨n - 1, by omega⟩
    refine ⟨m, ?_, Ak.rf m, h, hS⟩
    rw [fX11_laySure_24, sur]
    simp (disch := omega) only [h.2.1 7 (by omega), clI, cl2_so, cl1_so, ck_tr, zl_0, zl_1, zl_2, zl_3, zl_4, zl_5, zl_6, zl_7, zl_8, zl_9, zl_10, zl_11, zl_12, zl_15, zl_16, zl_20, zl_24, zl_25, zl_30, zl_31, zl_32, zl_33, zl_44, zl_48, zl_50, zl_57, zl_59, zl_60, zl_61, zl_62, zl_63, zl_64, zl_68, zl_97, zl_99, zl_100, zl_104, zl_108, zl_114, zl_120, zl_122, zl_126, zl_132, zl_180, zl_181, zl_186, zl_255, zl_900, zl_930, zl_1000, zl_1000000, nI_add, pk_mul, zs_sub, zs_lt, zs_le, zs_eq, zs_inb, zs_cl, zm_eq, zm_eq2, zm_lt, zm_le, mz_lt, mz_le, mm_eq, zs_bit, zs_or1, zs_div, zs_rem, ck_pos, if_pos, if_neg, true_or, or_true, true_and, and_true, false_or, or_false, false_and, and_false, not_true, not_false_iff, if_true, if_false, eq_self, Bool.false_eq_true, cl2_id, Bool.not_true, Bool.not_false]
  | succ j ih =>
    intro q n U m h hU hS hq hn
    obtain ⟨n, rfl⟩ : ∃ n', n = n' + 1 := ⟨n - 1, by omega⟩
    obtain ⟨-, o8, o1, o2, o3, -⟩ := hO.1.2.2.2.2.2.2.2.2.2.1 q (by omega)
    have e1 := h.2.1 (108 + q) (by omega)
    have e2 := h.2.1 (114 + q) (by omega)
    have hmo := z_mo_le hO.1.1
    have el := h.lay hO (side := r (108 + q)) (op := r (114 + q)) (br := 0) o1 o2 (by omega)
    have hA := ak_146 (m := m) (zL0 r q)
    have hK := h.ag hA.agN
    have hS2 : SM (wl m 147 0 (zL0 r q)) U := hS.ak (fun k => wl_na (by decide))
    have e65 := ls65 hK hO (q := q) (by omega) (ML_wl _) hU hS2 (k24 := fX11_laySure_24 n) (r (126 + q)) 0 FU (by omega) (FU_pos (by omega))
    rw [fX11_laySure_24, sur]
    cases hc : z_al (okU r q U) 0 (r (126 + q))
    · rw [hc] at e65
      refine ⟨_, ?_, hA, hK, hS2⟩
      simp (disch := omega) only [h.2.1 7 (by omega), e1, e2, el, cl2_so, cl1_so, ck_tr, zl_0, zl_1, zl_2, zl_3, zl_4, zl_5, zl_6, zl_7, zl_8, zl_9, zl_10, zl_11, zl_12, zl_15, zl_16, zl_20, zl_24, zl_25, zl_30, zl_31, zl_32, zl_33, zl_44, zl_48, zl_50, zl_57, zl_59, zl_60, zl_61, zl_62, zl_63, zl_64, zl_68, zl_97, zl_99, zl_100, zl_104, zl_108, zl_114, zl_120, zl_122, zl_126, zl_132, zl_180, zl_181, zl_186, zl_255, zl_900, zl_930, zl_1000, zl_1000000, nI_add, pk_mul, zs_sub, zs_lt, zs_le, zs_eq, zs_inb, zs_cl, zm_eq, zm_eq2, zm_lt, zm_le, mz_lt, mz_le, mm_eq, zs_bit, zs_or1, zs_div, zs_rem, ck_pos, if_pos, if_neg, true_or, or_true, true_and, and_true, false_or, or_false, false_and, and_false, not_true, not_false_iff, if_true, if_false, eq_self, Bool.false_eq_true, cl2_id, Bool.not_true, Bool.not_false]
      exact e65
    · rw [hc] at e65
      obtain ⟨m2, g1, g2, g3, g4⟩ := ls156 hO (q := q) (by omega) (k24 := fX11_laySure_24 n) (r (126 + q)) 0 FU U _ hK (ML_wl _) hS2 (by omega) (FU_pos (by omega))
      obtain ⟨m3, k1, k2, k3, k4⟩ := ih (q + 1) n _ m2 g3 (lrn_ok hO.1 (by omega) _ 0 U hU (by omega)) g4 (by omega) (by omega)
      refine ⟨m3, ?_, (hA.tr g2).tr k2, k3, k4⟩
      simp (disch := omega) only [h.2.1 7 (by omega), e1, e2, el, cl2_so, cl1_so, ck_tr, zl_0, zl_1, zl_2, zl_3, zl_4, zl_5, zl_6, zl_7, zl_8, zl_9, zl_10, zl_11, zl_12, zl_15, zl_16, zl_20, zl_24, zl_25, zl_30, zl_31, zl_32, zl_33, zl_44, zl_48, zl_50, zl_57, zl_59, zl_60, zl_61, zl_62, zl_63, zl_64, zl_68, zl_97, zl_99, zl_100, zl_104, zl_108, zl_114, zl_120, zl_122, zl_126, zl_132, zl_180, zl_181, zl_186, zl_255, zl_900, zl_930, zl_1000, zl_1000000, nI_add, pk_mul, zs_sub, zs_lt, zs_le, zs_eq, zs_inb, zs_cl, zm_eq, zm_eq2, zm_lt, zm_le, mz_lt, mz_le, mm_eq, zs_bit, zs_or1, zs_div, zs_rem, ck_pos, if_pos, if_neg, true_or, or_true, true_and, and_true, false_or, or_false, false_and, and_false, not_true, not_false_iff, if_true, if_false, eq_self, Bool.false_eq_true, cl2_id, Bool.not_true, Bool.not_false]
      exact e65.trans (g1.trans k1)
theorem ls2 : ∀ j k n (m : Me), KM m r s → (∀ i, i < k → m.1 154 i = -nI 3) → k + j = 60 → j < n → ∃ m', fX11_laySure_2 n (nI k) m = fX11_laySure_24 FU (nI 0) m' ∧ Ak sN m m' ∧ KM m' r s ∧ SM m' (fun _ => none) := by
  intro j
  induction j with
  | zero =>
    intro k n m h hS hk hn
    obtain ⟨n, rfl⟩ : ∃ n', n = n' + 1 := ⟨n - 1, by omega⟩
    refine ⟨m, ?_, Ak.rf m, h, fun i hi => hS i (by omega)⟩
    rw [fX11_laySure_2]
    simp (disch := omega) only [cl2_so, cl1_so, ck_tr, zl_0, zl_1, zl_2, zl_3, zl_4, zl_5, zl_6, zl_7, zl_8, zl_9, zl_10, zl_11, zl_12, zl_15, zl_16, zl_20, zl_24, zl_25, zl_30, zl_31, zl_32, zl_33, zl_44, zl_48, zl_50, zl_57, zl_59, zl_60, zl_61, zl_62, zl_63, zl_64, zl_68, zl_97, zl_99, zl_100, zl_104, zl_108, zl_114, zl_120, zl_122, zl_126, zl_132, zl_180, zl_181, zl_186, zl_255, zl_900, zl_930, zl_1000, zl_1000000, nI_add, pk_mul, zs_sub, zs_lt, zs_le, zs_eq, zs_inb, zs_cl, zm_eq, zm_eq2, zm_lt, zm_le, mz_lt, mz_le, mm_eq, zs_bit, zs_or1, zs_div, zs_rem, ck_pos, if_pos, if_neg, true_or, or_true, true_and, and_true, false_or, or_false, false_and, and_false, not_true, not_false_iff, if_true, if_false, eq_self, Bool.false_eq_true, cl2_id, Bool.not_true, Bool.not_false]
  | succ j ih =>
    intro k n m h hS hk hn
    obtain ⟨n, rfl⟩ : ∃ n', n = n' + 1 := ⟨n - 1, by omega⟩
    have hA : Ak sN m (setI m 154 k (-nI 3)) := (Ak.rf m).set _ (sN_in (by omega) _)
    obtain ⟨m2, g1, g2, g3, g4⟩ := ih (k + 1) n _ (h.ag hA.agN) (fun i hi => by
      by_cases z : i = k
      · subst z; exact sI_eq _ _ _ _
      · rw [sI_nj z]; exact hS i (by omega)) (by omega) (by omega)
    refine ⟨m2, ?_, hA.tr g2, g3, g4⟩
    rw [fX11_laySure_2]
    simp (disch := omega) only [cl2_so, cl1_so, ck_tr, zl_0, zl_1, zl_2, zl_3, zl_4, zl_5, zl_6, zl_7, zl_8, zl_9, zl_10, zl_11, zl_12, zl_15, zl_16, zl_20, zl_24, zl_25, zl_30, zl_31, zl_32, zl_33, zl_44, zl_48, zl_50, zl_57, zl_59, zl_60, zl_61, zl_62, zl_63, zl_64, zl_68, zl_97, zl_99, zl_100, zl_104, zl_108, zl_114, zl_120, zl_122, zl_126, zl_132, zl_180, zl_181, zl_186, zl_255, zl_900, zl_930, zl_1000, zl_1000000, nI_add, pk_mul, zs_sub, zs_lt, zs_le, zs_eq, zs_inb, zs_cl, zm_eq, zm_eq2, zm_lt, zm_le, mz_lt, mz_le, mm_eq, zs_bit, zs_or1, zs_div, zs_rem, ck_pos, if_pos, if_neg, true_or, or_true, true_and, and_true, false_or, or_false, false_and, and_false, not_true, not_false_iff, if_true, if_false, eq_self, Bool.false_eq_true, cl2_id, Bool.not_true, Bool.not_false]
    exact g1
theorem KM.laySure (h : KM m r s) (hO : KO r s) : ∃ m', fX11_laySure m = some (clI (surR r).2, m') ∧ Ak sN m m' ∧ KM m' r s ∧ SM m' (surR r).1 := by
  have hr7 := hO.1.2.2.2.2.2.1
  obtain ⟨m1, e1, a1, b1, c1⟩ := ls2 (r := r) (s := s) 60 0 FU m h (fun i hi => by omega) (by omega) (FU_pos (by omega))
  obtain ⟨m2, e2, a2, b2, c2⟩ := ls24 hO (r 7) 0 FU (fun _ => none) m1 b1 (fun k c e => by cases e) c1 (by omega) (FU_pos (by omega))
  exact ⟨m2, e1.trans e2, a1.tr a2, b2, c2⟩
/-- the class's table of what is sure -/
def SC (m : Me) (r : Nat → Nat) : Prop := (∀ side rib c, side ≤ 1 → rib < r 0 → c < r 1 → m.1 95 (side * 30 + (r 1 * rib + c)) = uI ((surR r).1 (30 * side + (3 * rib + c)))) ∧ (∀ k, k < 60 → (¬ ∃ side rib c, side ≤ 1 ∧ rib < r 0 ∧ c < r 1 ∧ k = side * 30 + (r 1 * rib + c)) → m.1 95 k = -nI 3) ∧ m.1 94 1 = clI (surR r).2
theorem SC.ag {m' : Me} (h : SC m r) (hA : Ag m m') : SC m' r := ⟨fun a b c x y z => (hA.1 95 _ (by unfold scr; simp)).trans (h.1 a b c x y z), fun k hk hn => (hA.1 95 k (by unfold scr; simp)).trans (h.2.1 k hk hn), (hA.1 94 1 (by decide)).trans h.2.2⟩
theorem b_clash (hC : JC m H r s) (hM : JM m H r s) (hO : JO H r s) (hS : H = true → SC m r) : Both fX10_clash fX11_clash m := by
  cases H
  · refine ⟨-nI 1, 1, ?_, fun m1 h1 => ?_⟩
    · have e : m.1 0 4 = nI 0 := hC.1
      unfold fX10_clash fX10_clash_26
      simp (disch := omega) only [e, cl2_so, cl1_so, ck_tr, zl_0, zl_1, zl_2, zl_3, zl_4, zl_5, zl_6, zl_7, zl_8, zl_9, zl_10, zl_11, zl_12, zl_15, zl_16, zl_20, zl_24, zl_25, zl_30, zl_31, zl_32, zl_33, zl_44, zl_48, zl_50, zl_57, zl_59, zl_60, zl_61, zl_62, zl_63, zl_64, zl_68, zl_97, zl_99, zl_100, zl_104, zl_108, zl_114, zl_120, zl_122, zl_126, zl_132, zl_180, zl_181, zl_186, zl_255, zl_900, zl_930, zl_1000, zl_1000000, nI_add, pk_mul, zs_sub, zs_lt, zs_le, zs_eq, zs_inb, zs_cl, zm_eq, zm_eq2, zm_lt, zm_le, mz_lt, mz_le, mm_eq, zs_bit, zs_or1, zs_div, zs_rem, ck_pos, if_pos, if_neg, true_or, or_true, true_and, and_true, false_or, or_false, false_and, and_false, not_true, not_false_iff, if_true, if_false, eq_self, Bool.false_eq_true, cl2_id, Bool.not_true, Bool.not_false]
      exact ansC_no 1 (Ak.rf m)
    · have hM1 := hM.ag (h1.agC.tr (gd_ak m1).agM)
      have e : (gdM m1).1 138 14 = nI 0 := hM1.1
      unfold fX11_clash fX11_clash_23
      simp (disch := omega) only [gd_e, e, cl2_so, cl1_so, ck_tr, zl_0, zl_1, zl_2, zl_3, zl_4, zl_5, zl_6, zl_7, zl_8, zl_9, zl_10, zl_11, zl_12, zl_15, zl_16, zl_20, zl_24, zl_25, zl_30, zl_31, zl_32, zl_33, zl_44, zl_48, zl_50, zl_57, zl_59, zl_60, zl_61, zl_62, zl_63, zl_64, zl_68, zl_97, zl_99, zl_100, zl_104, zl_108, zl_114, zl_120, zl_122, zl_126, zl_132, zl_180, zl_181, zl_186, zl_255, zl_900, zl_930, zl_1000, zl_1000000, nI_add, pk_mul, zs_sub, zs_lt, zs_le, zs_eq, zs_inb, zs_cl, zm_eq, zm_eq2, zm_lt, zm_le, mz_lt, mz_le, mm_eq, zs_bit, zs_or1, zs_div, zs_rem, ck_pos, if_pos, if_neg, true_or, or_true, true_and, and_true, false_or, or_false, false_and, and_false, not_true, not_false_iff, if_true, if_false, eq_self, Bool.false_eq_true, cl2_id, Bool.not_true, Bool.not_false]
      exact ansM_no 1 (gd_ak m1)
  · have hK : KO r s := hO rfl
    refine ⟨clI (surR r).2, 0, ?_, fun m1 h1 => ?_⟩
    · have e0 : m.1 0 4 = nI 1 := hC.1
      have e1 := (hS rfl).2.2
      unfold fX10_clash fX10_clash_26
      simp (disch := omega) only [e0, e1, cl2_so, cl1_so, ck_tr, zl_0, zl_1, zl_2, zl_3, zl_4, zl_5, zl_6, zl_7, zl_8, zl_9, zl_10, zl_11, zl_12, zl_15, zl_16, zl_20, zl_24, zl_25, zl_30, zl_31, zl_32, zl_33, zl_44, zl_48, zl_50, zl_57, zl_59, zl_60, zl_61, zl_62, zl_63, zl_64, zl_68, zl_97, zl_99, zl_100, zl_104, zl_108, zl_114, zl_120, zl_122, zl_126, zl_132, zl_180, zl_181, zl_186, zl_255, zl_900, zl_930, zl_1000, zl_1000000, nI_add, pk_mul, zs_sub, zs_lt, zs_le, zs_eq, zs_inb, zs_cl, zm_eq, zm_eq2, zm_lt, zm_le, mz_lt, mz_le, mm_eq, zs_bit, zs_or1, zs_div, zs_rem, ck_pos, if_pos, if_neg, true_or, or_true, true_and, and_true, false_or, or_false, false_and, and_false, not_true, not_false_iff, if_true, if_false, eq_self, Bool.false_eq_true, cl2_id, Bool.not_true, Bool.not_false]
      exact ansC_ok _ (Ak.rf m)
    · have hM1 := hM.ag (h1.agC.tr (gd_ak m1).agM)
      have e0 : (gdM m1).1 138 14 = nI 1 := hM1.1
      obtain ⟨m2, e2, f1, -⟩ := hM1.km.laySure hK
      unfold fX11_clash fX11_clash_23
      simp (disch := omega) only [gd_e, e0, e2, cl2_so, cl1_so, ck_tr, zl_0, zl_1, zl_2, zl_3, zl_4, zl_5, zl_6, zl_7, zl_8, zl_9, zl_10, zl_11, zl_12, zl_15, zl_16, zl_20, zl_24, zl_25, zl_30, zl_31, zl_32, zl_33, zl_44, zl_48, zl_50, zl_57, zl_59, zl_60, zl_61, zl_62, zl_63, zl_64, zl_68, zl_97, zl_99, zl_100, zl_104, zl_108, zl_114, zl_120, zl_122, zl_126, zl_132, zl_180, zl_181, zl_186, zl_255, zl_900, zl_930, zl_1000, zl_1000000, nI_add, pk_mul, zs_sub, zs_lt, zs_le, zs_eq, zs_inb, zs_cl, zm_eq, zm_eq2, zm_lt, zm_le, mz_lt, mz_le, mm_eq, zs_bit, zs_or1, zs_div, zs_rem, ck_pos, if_pos, if_neg, true_or, or_true, true_and, and_true, false_or, or_false, false_and, and_false, not_true, not_false_iff, if_true, if_false, eq_self, Bool.false_eq_true, cl2_id, Bool.not_true, Bool.not_false]
      exact ansN_ok _ f1
theorem sureLet (hS : SC m r) (hf : z_fan r) {side rib c : Nat} (hs : side ≤ 1) (hr : rib < r 0) (hc : c < r 1) : fX9_sureLetter (nI side) (nI (r 1 * rib + c)) m = some (uI ((surR r).1 (30 * side + (3 * rib + c))), m) := by
  obtain ⟨f0, f1, f2, f3, f4⟩ := hf
  have h1 : r 1 * rib ≤ 3 * rib := Nat.mul_le_mul_right _ f3
  have e := hS.1 side rib c hs hr hc
  unfold fX9_sureLetter fX9_sureLetter_19 fX9_sureLetter_30
  simp (disch := omega) only [fX10_cellIndex_e, e, cl2_so, cl1_so, ck_tr, zl_0, zl_1, zl_2, zl_3, zl_4, zl_5, zl_6, zl_7, zl_8, zl_9, zl_10, zl_11, zl_12, zl_15, zl_16, zl_20, zl_24, zl_25, zl_30, zl_31, zl_32, zl_33, zl_44, zl_48, zl_50, zl_57, zl_59, zl_60, zl_61, zl_62, zl_63, zl_64, zl_68, zl_97, zl_99, zl_100, zl_104, zl_108, zl_114, zl_120, zl_122, zl_126, zl_132, zl_180, zl_181, zl_186, zl_255, zl_900, zl_930, zl_1000, zl_1000000, nI_add, pk_mul, zs_sub, zs_lt, zs_le, zs_eq, zs_inb, zs_cl, zm_eq, zm_eq2, zm_lt, zm_le, mz_lt, mz_le, mm_eq, zs_bit, zs_or1, zs_div, zs_rem, ck_pos, if_pos, if_neg, true_or, or_true, true_and, and_true, false_or, or_false, false_and, and_false, not_true, not_false_iff, if_true, if_false, eq_self, Bool.false_eq_true, cl2_id, Bool.not_true, Bool.not_false]
theorem b_sure (hI : Inv m) (hC : JC m H r s) (hM : JM m H r s) (hO : JO H r s) (hS : H = true → SC m r) : Both (fX10_sure x1 x2 x3) (fX11_sure x1 x2 x3) m := by
  cases hv : vc H r x1 x2 x3
  · refine ⟨-nI 1, 1, ?_, fun m1 h1 => ?_⟩
    · unfold fX10_sure
      simp (disch := omega) only [fX10_noCell_e hC, hv, cl2_so, cl1_so, ck_tr, zl_0, zl_1, zl_2, zl_3, zl_4, zl_5, zl_6, zl_7, zl_8, zl_9, zl_10, zl_11, zl_12, zl_15, zl_16, zl_20, zl_24, zl_25, zl_30, zl_31, zl_32, zl_33, zl_44, zl_48, zl_50, zl_57, zl_59, zl_60, zl_61, zl_62, zl_63, zl_64, zl_68, zl_97, zl_99, zl_100, zl_104, zl_108, zl_114, zl_120, zl_122, zl_126, zl_132, zl_180, zl_181, zl_186, zl_255, zl_900, zl_930, zl_1000, zl_1000000, nI_add, pk_mul, zs_sub, zs_lt, zs_le, zs_eq, zs_inb, zs_cl, zm_eq, zm_eq2, zm_lt, zm_le, mz_lt, mz_le, mm_eq, zs_bit, zs_or1, zs_div, zs_rem, ck_pos, if_pos, if_neg, true_or, or_true, true_and, and_true, false_or, or_false, false_and, and_false, not_true, not_false_iff, if_true, if_false, eq_self, Bool.false_eq_true, cl2_id, Bool.not_true, Bool.not_false]
      exact ansC_no 1 (Ak.rf m)
    · have hM1 := hM.ag (h1.agC.tr (gd_ak m1).agM)
      unfold fX11_sure
      simp (disch := omega) only [gd_e, fX11_isCell_e hM1 hO, hv, cl2_so, cl1_so, ck_tr, zl_0, zl_1, zl_2, zl_3, zl_4, zl_5, zl_6, zl_7, zl_8, zl_9, zl_10, zl_11, zl_12, zl_15, zl_16, zl_20, zl_24, zl_25, zl_30, zl_31, zl_32, zl_33, zl_44, zl_48, zl_50, zl_57, zl_59, zl_60, zl_61, zl_62, zl_63, zl_64, zl_68, zl_97, zl_99, zl_100, zl_104, zl_108, zl_114, zl_120, zl_122, zl_126, zl_132, zl_180, zl_181, zl_186, zl_255, zl_900, zl_930, zl_1000, zl_1000000, nI_add, pk_mul, zs_sub, zs_lt, zs_le, zs_eq, zs_inb, zs_cl, zm_eq, zm_eq2, zm_lt, zm_le, mz_lt, mz_le, mm_eq, zs_bit, zs_or1, zs_div, zs_rem, ck_pos, if_pos, if_neg, true_or, or_true, true_and, and_true, false_or, or_false, false_and, and_false, not_true, not_false_iff, if_true, if_false, eq_self, Bool.false_eq_true, cl2_id, Bool.not_true, Bool.not_false]
      exact ansM_no 1 (gd_ak m1)
  · obtain ⟨rfl, side, rib, c, a, b, d, rfl, rfl, rfl⟩ := vc_out hO hv
    have hK : KO r s := hO rfl
    obtain ⟨f0, f1, f2, f3, f4⟩ := hK.1.1
    have hx : 30 * side + (3 * rib + c) < 60 := by omega
    refine ⟨uS ((surR r).1 (30 * side + (3 * rib + c))), 0, ?_, fun m1 h1 => ?_⟩
    · have e1 := (hC.2 rfl).1.1.2.1
      have e2 := sureLet (hS rfl) hK.1.1 a b d
      unfold fX10_sure fX10_sure_55
      cases hu : (surR r).1 (30 * side + (3 * rib + c)) with
      | none =>
        rw [hu] at e2
        have e2' : fX9_sureLetter (nI side) (nI (r 1 * rib + c)) m = some (-nI 3, m) := e2
        simp (disch := omega) only [fX10_noCell_e hC, hv, e1, e2', cl2_so, cl1_so, ck_tr, zl_0, zl_1, zl_2, zl_3, zl_4, zl_5, zl_6, zl_7, zl_8, zl_9, zl_10, zl_11, zl_12, zl_15, zl_16, zl_20, zl_24, zl_25, zl_30, zl_31, zl_32, zl_33, zl_44, zl_48, zl_50, zl_57, zl_59, zl_60, zl_61, zl_62, zl_63, zl_64, zl_68, zl_97, zl_99, zl_100, zl_104, zl_108, zl_114, zl_120, zl_122, zl_126, zl_132, zl_180, zl_181, zl_186, zl_255, zl_900, zl_930, zl_1000, zl_1000000, nI_add, pk_mul, zs_sub, zs_lt, zs_le, zs_eq, zs_inb, zs_cl, zm_eq, zm_eq2, zm_lt, zm_le, mz_lt, mz_le, mm_eq, zs_bit, zs_or1, zs_div, zs_rem, ck_pos, if_pos, if_neg, true_or, or_true, true_and, and_true, false_or, or_false, false_and, and_false, not_true, not_false_iff, if_true, if_false, eq_self, Bool.false_eq_true, cl2_id, Bool.not_true, Bool.not_false]
        exact ansC_ok _ (Ak.rf m)
      | some u =>
        rw [hu] at e2
        have hu25 := surR_ok hK.1 _ _ hu
        have e2' : fX9_sureLetter (nI side) (nI (r 1 * rib + c)) m = some (nI u, m) := e2
        simp (disch := omega) only [fX10_noCell_e hC, hv, e1, e2', fX10_letterOrBare_e (Nat.lt_of_le_of_lt hu25 (by decide)), cl2_so, cl1_so, ck_tr, zl_0, zl_1, zl_2, zl_3, zl_4, zl_5, zl_6, zl_7, zl_8, zl_9, zl_10, zl_11, zl_12, zl_15, zl_16, zl_20, zl_24, zl_25, zl_30, zl_31, zl_32, zl_33, zl_44, zl_48, zl_50, zl_57, zl_59, zl_60, zl_61, zl_62, zl_63, zl_64, zl_68, zl_97, zl_99, zl_100, zl_104, zl_108, zl_114, zl_120, zl_122, zl_126, zl_132, zl_180, zl_181, zl_186, zl_255, zl_900, zl_930, zl_1000, zl_1000000, nI_add, pk_mul, zs_sub, zs_lt, zs_le, zs_eq, zs_inb, zs_cl, zm_eq, zm_eq2, zm_lt, zm_le, mz_lt, mz_le, mm_eq, zs_bit, zs_or1, zs_div, zs_rem, ck_pos, if_pos, if_neg, true_or, or_true, true_and, and_true, false_or, or_false, false_and, and_false, not_true, not_false_iff, if_true, if_false, eq_self, Bool.false_eq_true, cl2_id, Bool.not_true, Bool.not_false]
        exact ansC_ok _ (Ak.rf m)
    · have hM1 := hM.ag (h1.agC.tr (gd_ak m1).agM)
      obtain ⟨m2, e2, g1, g2, g3⟩ := hM1.km.laySure hK
      have e3 := g3 _ hx
      unfold fX11_sure
      simp (disch := omega) only [gd_e, fX11_isCell_e hM1 hO, hv, e2, Nat.add_assoc, e3, cl2_so, cl1_so, ck_tr, zl_0, zl_1, zl_2, zl_3, zl_4, zl_5, zl_6, zl_7, zl_8, zl_9, zl_10, zl_11, zl_12, zl_15, zl_16, zl_20, zl_24, zl_25, zl_30, zl_31, zl_32, zl_33, zl_44, zl_48, zl_50, zl_57, zl_59, zl_60, zl_61, zl_62, zl_63, zl_64, zl_68, zl_97, zl_99, zl_100, zl_104, zl_108, zl_114, zl_120, zl_122, zl_126, zl_132, zl_180, zl_181, zl_186, zl_255, zl_900, zl_930, zl_1000, zl_1000000, nI_add, pk_mul, zs_sub, zs_lt, zs_le, zs_eq, zs_inb, zs_cl, zm_eq, zm_eq2, zm_lt, zm_le, mz_lt, mz_le, mm_eq, zs_bit, zs_or1, zs_div, zs_rem, ck_pos, if_pos, if_neg, true_or, or_true, true_and, and_true, false_or, or_false, false_and, and_false, not_true, not_false_iff, if_true, if_false, eq_self, Bool.false_eq_true, cl2_id, Bool.not_true, Bool.not_false]
      exact ansN_ok _ g1
end C15
