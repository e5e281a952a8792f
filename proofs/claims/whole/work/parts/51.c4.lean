/-! spans, span, mistakes, mistake -/
def zsp (g : Nat → Bool) : Nat → Nat → Option Nat → List (Nat × Nat)
  | _, 0, none => []
  | k, 0, some b => [(b, k - 1)]
  | k, j + 1, none => if g k then zsp g (k + 1) j (some k) else zsp g (k + 1) j none
  | k, j + 1, some b => if g k then zsp g (k + 1) j (some b) else (b, k - 1) :: zsp g (k + 1) j none
def curL (k : Nat) : Option Nat → List (Nat × Nat)
  | none => []
  | some b => [(b, k - 1)]
def fl2 (D : List (Nat × Nat)) : List Nat := D.flatMap (fun p => [p.1, p.2])
def GR (m : Me) (F : List Nat) : Prop := ∀ i, i < F.length → m.1 131 i = nI (F.getD i 0)
theorem getD_l {F G : List Nat} {i : Nat} (h : i < F.length) : (F ++ G).getD i 0 = F.getD i 0 := by
  rw [List.getD_eq_getElem?_getD, List.getD_eq_getElem?_getD, List.getElem?_append_left h]
theorem fl2_len (D : List (Nat × Nat)) : (fl2 D).length = 2 * D.length := by
  induction D with
  | nil => rfl
  | cons p D ih => simp [fl2] at ih ⊢; omega
theorem fl2_app (D E : List (Nat × Nat)) : fl2 (D ++ E) = fl2 D ++ fl2 E := by simp [fl2]
theorem GR.add {m : Me} {F : List Nat} (h : GR m F) (x : Nat) : GR (setI m 131 F.length (nI x)) (F ++ [x]) := by
  intro i hi
  rw [List.length_append] at hi
  simp at hi
  by_cases h1 : i = F.length
  · subst h1
    rw [sI_eq]
    simp
  · rw [sI_nj h1, h i (by omega), getD_l (by omega)]
theorem GR.last {m : Me} {F : List Nat} {y : Nat} (h : GR m (F ++ [y])) (x : Nat) : GR (setI m 131 F.length (nI x)) (F ++ [x]) := GR.add (fun i hi => by
  have := h i (by simp; omega)
  rw [getD_l hi] at this
  exact this) x
theorem GR.eq {m m' : Me} {F : List Nat} (h : GR m F) (h' : ∀ b k, (b < 88 ∨ 90 < b) → m'.1 b k = m.1 b k) : GR m' F := fun i hi => (h' 131 i (by omega)).trans (h i hi)
section C5
variable {m : Me} {H : Bool} {t : Nat} {r s : Nat → Nat} {x1 x2 x3 x4 : Int32}
theorem KC.isRead2 (h : KC m t r s) (hO : KO r s) {a side op br : Nat} {w : List Nat} (hw : SYok w) (hS : SY m a w) (ha : 1 ≤ a ∧ a ≤ 86) (hs : side ≤ 1) (ho : op ≤ z_mo r) (hb : br < 1024) : ∃ m', fX10_isReadIf (nI br) a (nI side) (nI op) m = some (nI (if rd w (zT r s side op br) then 1 else 0), m') ∧ Ak sC m m' ∧ KC m' t r s ∧ ∀ b k, (b < 88 ∨ 90 < b) → m'.1 b k = m.1 b k := by
  obtain ⟨m', e, h1, h2, h3, h4, h5, -⟩ := h.look hO (a := 88) (br := br) (by decide) hs ho hb
  refine ⟨m', ?_, h1, h2, fun b k hb => h5 b k (by omega) (by omega) (by omega)⟩
  unfold fX10_isReadIf
  rw [h.1, e, cl1_so]
  rw [cl2_e (fX7_isRead_e h3 (hS.ak h1 ha.1 ha.2) hw.2.1 hw.1 (zT_30 hO br ho) hw.2.2 (fun k hk => by have := zT_25 hO br hs ho hk; omega))]
  have e3 := rdB_e w (zT r s side op br)
  unfold rdB at e3
  rw [e3]
  cases rd w (zT r s side op br) <;> rfl
theorem KC.openings (h : KC m t r s) (hO : KO r s) : fX2_openings t m = some (nI (z_mo r + 1), m) := fX2_openings_e h.2.2.1.1 hO.1.1
theorem gs8 (hO : KO r s) {w side : Nat} (hw : w < r 5) (hs : side ≤ 1) : ∀ j k n D cur (m : Me), KC m t r s → k + j = z_mo r + 1 → j < n → GR m (fl2 (D ++ curL k cur)) → (D ++ curL k cur).length ≤ k → ∃ m', fX10_gatherSpans_8 n (t + 7 + 2 * w) (nI side) (nI (D ++ curL k cur).length) (nI (if cur.isSome then 1 else 0)) (nI k) m = some (nI (D ++ zsp (fun v => rd (z_word r w) (zT r s side v (s 60))) k j cur).length, m') ∧ Ak sC m m' ∧ KC m' t r s ∧ GR m' (fl2 (D ++ zsp (fun v => rd (z_word r w) (zT r s side v (s 60))) k j cur)) := by
  have h5 := hO.1.2.2.2.1
  have hmo := z_mo_le hO.1.1
  intro j
  induction j with
  | zero =>
    intro k n D cur m h hk hn hG hl
    obtain ⟨n, rfl⟩ : ∃ n', n = n' + 1 := ⟨n - 1, by omega⟩
    have e : zsp (fun v => rd (z_word r w) (zT r s side v (s 60))) k 0 cur = curL k cur := by cases cur <;> rfl
    rw [e]
    refine ⟨m, ?_, Ak.rf m, h, hG⟩
    rw [fX10_gatherSpans_8]
    simp (disch := omega) only [h.1, h.openings hO, cl2_so, cl1_so, ck_tr, zl_0, zl_1, zl_2, zl_3, zl_4, zl_5, zl_6, zl_7, zl_8, zl_9, zl_10, zl_11, zl_12, zl_15, zl_16, zl_20, zl_24, zl_25, zl_30, zl_31, zl_32, zl_33, zl_44, zl_48, zl_50, zl_57, zl_59, zl_60, zl_61, zl_62, zl_63, zl_64, zl_68, zl_97, zl_99, zl_100, zl_104, zl_108, zl_114, zl_120, zl_122, zl_126, zl_132, zl_180, zl_181, zl_186, zl_255, zl_900, zl_930, zl_1000, zl_1000000, nI_add, pk_mul, zs_sub, zs_lt, zs_le, zs_eq, zs_inb, zs_cl, zm_eq, zm_eq2, zm_lt, zm_le, mz_lt, mz_le, mm_eq, zs_bit, zs_or1, zs_div, zs_rem, ck_pos, if_pos, if_neg, true_or, or_true, true_and, and_true, false_or, or_false, false_and, and_false, not_true, not_false_iff, if_true, if_false, eq_self, Bool.false_eq_true, cl2_id, Bool.not_true, Bool.not_false]
  | succ j ih =>
    intro k n D cur m h hk hn hG hl
    obtain ⟨n, rfl⟩ : ∃ n', n = n' + 1 := ⟨n - 1, by omega⟩
    have ht := h.tt
    obtain ⟨m1, e, g1, g2, g3⟩ := h.isRead2 hO (br := s 60) (op := k) (word_ok hO.1 hw) (h.word hw) (by omega) hs (by omega) hO.s60
    have eb := h.2.2.2.1.2.1
    have hG1 := hG.eq g3
    rw [fX10_gatherSpans_8]
    unfold fX10_gatherSpans_60 fX10_gatherSpans_77
    cases hg : rd (z_word r w) (zT r s side k (s 60))
    · rw [hg] at e
      cases cur with
      | none =>
        obtain ⟨m2, f1, f2, f3, f4⟩ := ih (k + 1) n D none m1 g2 (by omega) (by omega) hG1 (by simp only [curL] at hl ⊢; omega)
        have ez : zsp (fun v => rd (z_word r w) (zT r s side v (s 60))) k (j + 1) none = zsp (fun v => rd (z_word r w) (zT r s side v (s 60))) (k + 1) j none := by rw [zsp]; simp only [hg]; rfl
        rw [ez]
        refine ⟨m2, ?_, g1.tr f2, f3, f4⟩
        simp (disch := omega) only [h.1, h.openings hO, eb, e, cl2_so, cl1_so, ck_tr, zl_0, zl_1, zl_2, zl_3, zl_4, zl_5, zl_6, zl_7, zl_8, zl_9, zl_10, zl_11, zl_12, zl_15, zl_16, zl_20, zl_24, zl_25, zl_30, zl_31, zl_32, zl_33, zl_44, zl_48, zl_50, zl_57, zl_59, zl_60, zl_61, zl_62, zl_63, zl_64, zl_68, zl_97, zl_99, zl_100, zl_104, zl_108, zl_114, zl_120, zl_122, zl_126, zl_132, zl_180, zl_181, zl_186, zl_255, zl_900, zl_930, zl_1000, zl_1000000, nI_add, pk_mul, zs_sub, zs_lt, zs_le, zs_eq, zs_inb, zs_cl, zm_eq, zm_eq2, zm_lt, zm_le, mz_lt, mz_le, mm_eq, zs_bit, zs_or1, zs_div, zs_rem, ck_pos, if_pos, if_neg, true_or, or_true, true_and, and_true, false_or, or_false, false_and, and_false, not_true, not_false_iff, if_true, if_false, eq_self, Bool.false_eq_true, cl2_id, Bool.not_true, Bool.not_false]
        exact f1
      | some b =>
        obtain ⟨m2, f1, f2, f3, f4⟩ := ih (k + 1) n (D ++ [(b, k - 1)]) none m1 g2 (by omega) (by omega) (by simp only [curL, List.append_nil] at hG1 ⊢; exact hG1) (by simp [curL] at hl ⊢; omega)
        have ez : zsp (fun v => rd (z_word r w) (zT r s side v (s 60))) k (j + 1) (some b) = (b, k - 1) :: zsp (fun v => rd (z_word r w) (zT r s side v (s 60))) (k + 1) j none := by rw [zsp]; simp only [hg]; rfl
        rw [ez]
        have el : (D ++ [(b, k - 1)]) ++ zsp (fun v => rd (z_word r w) (zT r s side v (s 60))) (k + 1) j none = D ++ (b, k - 1) :: zsp (fun v => rd (z_word r w) (zT r s side v (s 60))) (k + 1) j none := by simp
        rw [el] at f1 f4
        refine ⟨m2, ?_, g1.tr f2, f3, f4⟩
        simp (disch := omega) only [h.1, h.openings hO, eb, e, cl2_so, cl1_so, ck_tr, zl_0, zl_1, zl_2, zl_3, zl_4, zl_5, zl_6, zl_7, zl_8, zl_9, zl_10, zl_11, zl_12, zl_15, zl_16, zl_20, zl_24, zl_25, zl_30, zl_31, zl_32, zl_33, zl_44, zl_48, zl_50, zl_57, zl_59, zl_60, zl_61, zl_62, zl_63, zl_64, zl_68, zl_97, zl_99, zl_100, zl_104, zl_108, zl_114, zl_120, zl_122, zl_126, zl_132, zl_180, zl_181, zl_186, zl_255, zl_900, zl_930, zl_1000, zl_1000000, nI_add, pk_mul, zs_sub, zs_lt, zs_le, zs_eq, zs_inb, zs_cl, zm_eq, zm_eq2, zm_lt, zm_le, mz_lt, mz_le, mm_eq, zs_bit, zs_or1, zs_div, zs_rem, ck_pos, if_pos, if_neg, true_or, or_true, true_and, and_true, false_or, or_false, false_and, and_false, not_true, not_false_iff, if_true, if_false, eq_self, Bool.false_eq_true, cl2_id, Bool.not_true, Bool.not_false]
        have ec : D ++ [(b, k - 1)] ++ curL (k + 1) none = D ++ curL k (some b) := by simp [curL]
        rw [ec] at f1
        exact f1
    · rw [hg] at e
      cases cur with
      | none =>
        have ec : D ++ curL k none = D := by simp [curL]
        rw [ec] at hG1 hl ⊢
        have hG2 := (hG1.add k).add k
        have hl2 := fl2_len D
        have ea : fl2 D ++ [k] ++ [k] = fl2 (D ++ curL (k + 1) (some k)) := by simp [fl2, curL]
        rw [ea] at hG2
        have ez : zsp (fun v => rd (z_word r w) (zT r s side v (s 60))) k (j + 1) none = zsp (fun v => rd (z_word r w) (zT r s side v (s 60))) (k + 1) j (some k) := by rw [zsp]; simp only [hg]; rfl
        rw [ez]
        have hA : Ak sC m1 (setI (setI m1 131 (fl2 D).length (nI k)) 131 (fl2 D ++ [k]).length (nI k)) := ((Ak.rf m1).set _ (sC_in (by omega) _)).set _ (sC_in (by omega) _)
        obtain ⟨m2, f1, f2, f3, f4⟩ := ih (k + 1) n D (some k) _ (g2.ag hO hA.agC) (by omega) (by omega) hG2 (by simp [curL]; omega)
        refine ⟨m2, ?_, (g1.tr hA).tr f2, f3, f4⟩
        have e1 : 2 * (D.length + 1) - 1 = 2 * D.length + 1 := by omega
        simp (disch := omega) only [h.1, h.openings hO, eb, e, Option.isSome, e1, cl2_so, cl1_so, ck_tr, zl_0, zl_1, zl_2, zl_3, zl_4, zl_5, zl_6, zl_7, zl_8, zl_9, zl_10, zl_11, zl_12, zl_15, zl_16, zl_20, zl_24, zl_25, zl_30, zl_31, zl_32, zl_33, zl_44, zl_48, zl_50, zl_57, zl_59, zl_60, zl_61, zl_62, zl_63, zl_64, zl_68, zl_97, zl_99, zl_100, zl_104, zl_108, zl_114, zl_120, zl_122, zl_126, zl_132, zl_180, zl_181, zl_186, zl_255, zl_900, zl_930, zl_1000, zl_1000000, nI_add, pk_mul, zs_sub, zs_lt, zs_le, zs_eq, zs_inb, zs_cl, zm_eq, zm_eq2, zm_lt, zm_le, mz_lt, mz_le, mm_eq, zs_bit, zs_or1, zs_div, zs_rem, ck_pos, if_pos, if_neg, true_or, or_true, true_and, and_true, false_or, or_false, false_and, and_false, not_true, not_false_iff, if_true, if_false, eq_self, Bool.false_eq_true, cl2_id, Bool.not_true, Bool.not_false]
        simp only [curL, List.length_append, List.length_singleton, Option.isSome, if_true, hl2] at f1 ⊢
        exact f1
      | some b =>
        have hl2 := fl2_len D
        have ea : fl2 (D ++ curL k (some b)) = (fl2 D ++ [b]) ++ [k - 1] := by simp [fl2, curL]
        rw [ea] at hG1
        have hG2 := hG1.last k
        have eb2 : (fl2 D ++ [b]) ++ [k] = fl2 (D ++ curL (k + 1) (some b)) := by simp [fl2, curL]
        rw [eb2] at hG2
        have ez : zsp (fun v => rd (z_word r w) (zT r s side v (s 60))) k (j + 1) (some b) = zsp (fun v => rd (z_word r w) (zT r s side v (s 60))) (k + 1) j (some b) := by rw [zsp]; simp only [hg]; rfl
        rw [ez]
        have hA : Ak sC m1 (setI m1 131 (fl2 D ++ [b]).length (nI k)) := (Ak.rf m1).set _ (sC_in (by omega) _)
        simp only [curL, List.length_append, List.length_singleton] at hl
        obtain ⟨m2, f1, f2, f3, f4⟩ := ih (k + 1) n D (some b) _ (g2.ag hO hA.agC) (by omega) (by omega) hG2 (by simp [curL]; omega)
        refine ⟨m2, ?_, (g1.tr hA).tr f2, f3, f4⟩
        have e1 : 2 * (D.length + 1) - 1 = 2 * D.length + 1 := by omega
        simp only [curL, List.length_append, List.length_singleton, Option.isSome, if_true] at f1 ⊢
        simp (disch := omega) only [h.1, h.openings hO, eb, e, e1, cl2_so, cl1_so, ck_tr, zl_0, zl_1, zl_2, zl_3, zl_4, zl_5, zl_6, zl_7, zl_8, zl_9, zl_10, zl_11, zl_12, zl_15, zl_16, zl_20, zl_24, zl_25, zl_30, zl_31, zl_32, zl_33, zl_44, zl_48, zl_50, zl_57, zl_59, zl_60, zl_61, zl_62, zl_63, zl_64, zl_68, zl_97, zl_99, zl_100, zl_104, zl_108, zl_114, zl_120, zl_122, zl_126, zl_132, zl_180, zl_181, zl_186, zl_255, zl_900, zl_930, zl_1000, zl_1000000, nI_add, pk_mul, zs_sub, zs_lt, zs_le, zs_eq, zs_inb, zs_cl, zm_eq, zm_eq2, zm_lt, zm_le, mz_lt, mz_le, mm_eq, zs_bit, zs_or1, zs_div, zs_rem, ck_pos, if_pos, if_neg, true_or, or_true, true_and, and_true, false_or, or_false, false_and, and_false, not_true, not_false_iff, if_true, if_false, eq_self, Bool.false_eq_true, cl2_id, Bool.not_true, Bool.not_false]
        rw [hl2] at f1
        exact f1
theorem KC.spans (h : KC m t r s) (hO : KO r s) {w side : Nat} (hw : w < r 5) (hs : side ≤ 1) : ∃ m', fX10_gatherSpans (t + 7 + 2 * w) (nI side) m = some (nI (zsp (fun v => rd (z_word r w) (zT r s side v (s 60))) 0 (z_mo r + 1) none).length, m') ∧ Ak sC m m' ∧ KC m' t r s ∧ GR m' (fl2 (zsp (fun v => rd (z_word r w) (zT r s side v (s 60))) 0 (z_mo r + 1) none)) := by
  have hmo := z_mo_le hO.1.1
  exact gs8 hO hw hs (z_mo r + 1) 0 FU [] none m h (by omega) (FU_pos (by omega)) (fun i hi => by simp [curL, fl2] at hi) (by simp [curL])
/-! the reference -/
def spR (X : Option Nat) (L : Int32) (l : List (Nat × Nat)) : Int32 := match X with
  | none => nI l.length - nI 1000
  | some i => match l[i]? with
    | some p => if L = nI 0 then nI p.1 else nI p.2
    | none => nI l.length - nI 1000
def XI : Option Nat → Int32
  | none => -nI 1
  | some i => nI i
theorem XI_ne {X : Option Nat} {n : Nat} (hX : ∀ i, X = some i → i < 2147483648) (hn : n < 2147483648) : nI n = XI X ↔ X = some n := by
  cases X with
  | none =>
    show nI n = -nI 1 ↔ _
    rw [zm_eq hn (by omega)]
    constructor
    · intro q; omega
    · intro q; cases q
  | some i =>
    show nI n = nI i ↔ _
    rw [zs_eq hn (hX i rfl)]
    constructor
    · intro q; rw [q]
    · intro q; exact (Option.some.inj q).symm
theorem spR_at {X : Option Nat} {L : Int32} {D E : List (Nat × Nat)} {p : Nat × Nat} (h : X = some D.length) : spR X L (D ++ p :: E) = if L = nI 0 then nI p.1 else nI p.2 := by
  subst h
  unfold spR
  simp
theorem spR_no {X : Option Nat} {L : Int32} {D : List (Nat × Nat)} (h : ∀ i, X = some i → D.length ≤ i) : spR X L D = nI D.length - nI 1000 := by
  unfold spR
  cases X with
  | none => rfl
  | some i => simp [h i rfl]
theorem so9 (hO : KO r s) {w side : Nat} (hw : w < r 5) (hs : side ≤ 1) {X : Option Nat} {L : Int32} (hX : ∀ i, X = some i → i < 2147483648) : ∀ j k n D cur (m : Me), KM m r s → k + j = z_mo r + 1 → j + 1 < n → (D ++ curL k cur).length ≤ k → (∀ i, X = some i → D.length ≤ i) → (∀ b, cur = some b → b < k) → ∃ m', fX11_spanOf_9 n (nI w) (nI side) (XI X) L (nI D.length) (XI cur) (nI k) m = some (spR X L (D ++ zsp (fun v => rd (z_word r w) (zT r s side v (s 60))) k j cur), m') ∧ Ak sN m m' := by
  have h5 := hO.1.2.2.2.1
  have hmo := z_mo_le hO.1.1
  intro j
  induction j with
  | zero =>
    intro k n D cur m h hk hn hl hX2 hc
    obtain ⟨n, rfl⟩ : ∃ n', n = n' + 1 + 1 := ⟨n - 2, by omega⟩
    refine ⟨m, ?_, Ak.rf m⟩
    rw [fX11_spanOf_9]
    unfold fX11_spanOf_50 fX11_spanOf_51 fX11_spanOf_67 fX11_spanOf_100 fX11_spanOf_107
    cases cur with
    | none =>
      simp only [curL, List.append_nil, zsp] at hl ⊢
      rw [spR_no hX2]
      simp (disch := omega) only [h.mostOpen hO, XI, cl2_so, cl1_so, ck_tr, zl_0, zl_1, zl_2, zl_3, zl_4, zl_5, zl_6, zl_7, zl_8, zl_9, zl_10, zl_11, zl_12, zl_15, zl_16, zl_20, zl_24, zl_25, zl_30, zl_31, zl_32, zl_33, zl_44, zl_48, zl_50, zl_57, zl_59, zl_60, zl_61, zl_62, zl_63, zl_64, zl_68, zl_97, zl_99, zl_100, zl_104, zl_108, zl_114, zl_120, zl_122, zl_126, zl_132, zl_180, zl_181, zl_186, zl_255, zl_900, zl_930, zl_1000, zl_1000000, nI_add, pk_mul, zs_sub, zs_lt, zs_le, zs_eq, zs_inb, zs_cl, zm_eq, zm_eq2, zm_lt, zm_le, mz_lt, mz_le, mm_eq, zs_bit, zs_or1, zs_div, zs_rem, ck_pos, if_pos, if_neg, true_or, or_true, true_and, and_true, false_or, or_false, false_and, and_false, not_true, not_false_iff, if_true, if_false, eq_self, Bool.false_eq_true, cl2_id, Bool.not_true, Bool.not_false]
      rw [fX11_spanOf_9]
      simp (disch := omega) only [h.mostOpen hO, cl2_so, cl1_so, ck_tr, zl_0, zl_1, zl_2, zl_3, zl_4, zl_5, zl_6, zl_7, zl_8, zl_9, zl_10, zl_11, zl_12, zl_15, zl_16, zl_20, zl_24, zl_25, zl_30, zl_31, zl_32, zl_33, zl_44, zl_48, zl_50, zl_57, zl_59, zl_60, zl_61, zl_62, zl_63, zl_64, zl_68, zl_97, zl_99, zl_100, zl_104, zl_108, zl_114, zl_120, zl_122, zl_126, zl_132, zl_180, zl_181, zl_186, zl_255, zl_900, zl_930, zl_1000, zl_1000000, nI_add, pk_mul, zs_sub, zs_lt, zs_le, zs_eq, zs_inb, zs_cl, zm_eq, zm_eq2, zm_lt, zm_le, mz_lt, mz_le, mm_eq, zs_bit, zs_or1, zs_div, zs_rem, ck_pos, if_pos, if_neg, true_or, or_true, true_and, and_true, false_or, or_false, false_and, and_false, not_true, not_false_iff, if_true, if_false, eq_self, Bool.false_eq_true, cl2_id, Bool.not_true, Bool.not_false]
    | some b =>
      have hb := hc b rfl
      simp only [curL, List.length_append, List.length_singleton] at hl
      simp only [zsp]
      by_cases hx : X = some D.length
      · rw [spR_at hx]
        have e := (XI_ne hX (n := D.length) (by omega)).mpr hx
        simp (disch := omega) only [h.mostOpen hO, XI, e, cl2_so, cl1_so, ck_tr, zl_0, zl_1, zl_2, zl_3, zl_4, zl_5, zl_6, zl_7, zl_8, zl_9, zl_10, zl_11, zl_12, zl_15, zl_16, zl_20, zl_24, zl_25, zl_30, zl_31, zl_32, zl_33, zl_44, zl_48, zl_50, zl_57, zl_59, zl_60, zl_61, zl_62, zl_63, zl_64, zl_68, zl_97, zl_99, zl_100, zl_104, zl_108, zl_114, zl_120, zl_122, zl_126, zl_132, zl_180, zl_181, zl_186, zl_255, zl_900, zl_930, zl_1000, zl_1000000, nI_add, pk_mul, zs_sub, zs_lt, zs_le, zs_eq, zs_inb, zs_cl, zm_eq, zm_eq2, zm_lt, zm_le, mz_lt, mz_le, mm_eq, zs_bit, zs_or1, zs_div, zs_rem, ck_pos, if_pos, if_neg, true_or, or_true, true_and, and_true, false_or, or_false, false_and, and_false, not_true, not_false_iff, if_true, if_false, eq_self, Bool.false_eq_true, cl2_id, Bool.not_true, Bool.not_false]
        split <;> rfl
      · have e : ¬ nI D.length = XI X := fun q => hx ((XI_ne hX (n := D.length) (by omega)).mp q)
        rw [spR_no (fun i hi => by
          have := hX2 i hi
          rw [List.length_append]
          simp
          rcases Nat.lt_or_ge D.length i with q | q
          · omega
          · exact absurd (by rw [hi]; congr 1; omega) hx)]
        have e3 : XI (some b) = nI b := rfl
        rw [e3]
        simp (disch := omega) only [h.mostOpen hO, e, cl2_so, cl1_so, ck_tr, zl_0, zl_1, zl_2, zl_3, zl_4, zl_5, zl_6, zl_7, zl_8, zl_9, zl_10, zl_11, zl_12, zl_15, zl_16, zl_20, zl_24, zl_25, zl_30, zl_31, zl_32, zl_33, zl_44, zl_48, zl_50, zl_57, zl_59, zl_60, zl_61, zl_62, zl_63, zl_64, zl_68, zl_97, zl_99, zl_100, zl_104, zl_108, zl_114, zl_120, zl_122, zl_126, zl_132, zl_180, zl_181, zl_186, zl_255, zl_900, zl_930, zl_1000, zl_1000000, nI_add, pk_mul, zs_sub, zs_lt, zs_le, zs_eq, zs_inb, zs_cl, zm_eq, zm_eq2, zm_lt, zm_le, mz_lt, mz_le, mm_eq, zs_bit, zs_or1, zs_div, zs_rem, ck_pos, if_pos, if_neg, true_or, or_true, true_and, and_true, false_or, or_false, false_and, and_false, not_true, not_false_iff, if_true, if_false, eq_self, Bool.false_eq_true, cl2_id, Bool.not_true, Bool.not_false]
        rw [fX11_spanOf_9]
        simp only [List.length_append, List.length_singleton]
        simp (disch := omega) only [h.mostOpen hO, cl2_so, cl1_so, ck_tr, zl_0, zl_1, zl_2, zl_3, zl_4, zl_5, zl_6, zl_7, zl_8, zl_9, zl_10, zl_11, zl_12, zl_15, zl_16, zl_20, zl_24, zl_25, zl_30, zl_31, zl_32, zl_33, zl_44, zl_48, zl_50, zl_57, zl_59, zl_60, zl_61, zl_62, zl_63, zl_64, zl_68, zl_97, zl_99, zl_100, zl_104, zl_108, zl_114, zl_120, zl_122, zl_126, zl_132, zl_180, zl_181, zl_186, zl_255, zl_900, zl_930, zl_1000, zl_1000000, nI_add, pk_mul, zs_sub, zs_lt, zs_le, zs_eq, zs_inb, zs_cl, zm_eq, zm_eq2, zm_lt, zm_le, mz_lt, mz_le, mm_eq, zs_bit, zs_or1, zs_div, zs_rem, ck_pos, if_pos, if_neg, true_or, or_true, true_and, and_true, false_or, or_false, false_and, and_false, not_true, not_false_iff, if_true, if_false, eq_self, Bool.false_eq_true, cl2_id, Bool.not_true, Bool.not_false]
  | succ j ih =>
    intro k n D cur m h hk hn hl hX2 hc
    obtain ⟨n, rfl⟩ : ∃ n', n = n' + 1 := ⟨n - 1, by omega⟩
    obtain ⟨m1, e, g1, g2, -⟩ := h.readsWord hO hw (side := side) (op := k) hs (by omega)
    have hbd : z_rdN (z_word r w) (zT r s side k (s 60)) ≤ 30 := Nat.le_trans (z_ct_le _ _ _) (zT_30 hO _ (by omega))
    rw [fX11_spanOf_9]
    unfold fX11_spanOf_50 fX11_spanOf_51 fX11_spanOf_67 fX11_spanOf_100 fX11_spanOf_107
    cases hg : rd (z_word r w) (zT r s side k (s 60))
    · have h0 := rd_0 hg
      cases cur with
      | none =>
        have ez : zsp (fun v => rd (z_word r w) (zT r s side v (s 60))) k (j + 1) none = zsp (fun v => rd (z_word r w) (zT r s side v (s 60))) (k + 1) j none := by rw [zsp]; simp only [hg]; rfl
        rw [ez]
        obtain ⟨m2, f1, f2⟩ := ih (k + 1) n D none m1 g2 (by omega) (by omega) (by simp only [curL] at hl ⊢; omega) hX2 (fun b q => by cases q)
        refine ⟨m2, ?_, g1.tr f2⟩
        simp only [XI] at f1 ⊢
        simp (disch := omega) only [h.mostOpen hO, e, h0, cl2_so, cl1_so, ck_tr, zl_0, zl_1, zl_2, zl_3, zl_4, zl_5, zl_6, zl_7, zl_8, zl_9, zl_10, zl_11, zl_12, zl_15, zl_16, zl_20, zl_24, zl_25, zl_30, zl_31, zl_32, zl_33, zl_44, zl_48, zl_50, zl_57, zl_59, zl_60, zl_61, zl_62, zl_63, zl_64, zl_68, zl_97, zl_99, zl_100, zl_104, zl_108, zl_114, zl_120, zl_122, zl_126, zl_132, zl_180, zl_181, zl_186, zl_255, zl_900, zl_930, zl_1000, zl_1000000, nI_add, pk_mul, zs_sub, zs_lt, zs_le, zs_eq, zs_inb, zs_cl, zm_eq, zm_eq2, zm_lt, zm_le, mz_lt, mz_le, mm_eq, zs_bit, zs_or1, zs_div, zs_rem, ck_pos, if_pos, if_neg, true_or, or_true, true_and, and_true, false_or, or_false, false_and, and_false, not_true, not_false_iff, if_true, if_false, eq_self, Bool.false_eq_true, cl2_id, Bool.not_true, Bool.not_false]
        exact f1
      | some b =>
        have hb := hc b rfl
        have ez : zsp (fun v => rd (z_word r w) (zT r s side v (s 60))) k (j + 1) (some b) = (b, k - 1) :: zsp (fun v => rd (z_word r w) (zT r s side v (s 60))) (k + 1) j none := by rw [zsp]; simp only [hg]; rfl
        rw [ez]
        simp only [curL, List.length_append, List.length_singleton] at hl
        by_cases hx : X = some D.length
        · rw [spR_at hx]
          refine ⟨m1, ?_, g1⟩
          have e2 := (XI_ne hX (n := D.length) (by omega)).mpr hx
          have e3 : XI (some b) = nI b := rfl
          rw [e3]
          simp (disch := omega) only [h.mostOpen hO, e, h0, e2, cl2_so, cl1_so, ck_tr, zl_0, zl_1, zl_2, zl_3, zl_4, zl_5, zl_6, zl_7, zl_8, zl_9, zl_10, zl_11, zl_12, zl_15, zl_16, zl_20, zl_24, zl_25, zl_30, zl_31, zl_32, zl_33, zl_44, zl_48, zl_50, zl_57, zl_59, zl_60, zl_61, zl_62, zl_63, zl_64, zl_68, zl_97, zl_99, zl_100, zl_104, zl_108, zl_114, zl_120, zl_122, zl_126, zl_132, zl_180, zl_181, zl_186, zl_255, zl_900, zl_930, zl_1000, zl_1000000, nI_add, pk_mul, zs_sub, zs_lt, zs_le, zs_eq, zs_inb, zs_cl, zm_eq, zm_eq2, zm_lt, zm_le, mz_lt, mz_le, mm_eq, zs_bit, zs_or1, zs_div, zs_rem, ck_pos, if_pos, if_neg, true_or, or_true, true_and, and_true, false_or, or_false, false_and, and_false, not_true, not_false_iff, if_true, if_false, eq_self, Bool.false_eq_true, cl2_id, Bool.not_true, Bool.not_false]
          split <;> rfl
        · have e2 : ¬ nI D.length = XI X := fun q => hx ((XI_ne hX (n := D.length) (by omega)).mp q)
          have el : (D ++ [(b, k - 1)]) ++ zsp (fun v => rd (z_word r w) (zT r s side v (s 60))) (k + 1) j none = D ++ (b, k - 1) :: zsp (fun v => rd (z_word r w) (zT r s side v (s 60))) (k + 1) j none := by simp
          rw [← el]
          obtain ⟨m2, f1, f2⟩ := ih (k + 1) n (D ++ [(b, k - 1)]) none m1 g2 (by omega) (by omega) (by simp [curL]; omega) (fun i hi => by
            have := hX2 i hi
            rw [List.length_append]
            simp
            rcases Nat.lt_or_ge D.length i with q | q
            · omega
            · exact absurd (by rw [hi]; congr 1; omega) hx) (fun b q => by cases q)
          refine ⟨m2, ?_, g1.tr f2⟩
          have e3 : XI (some b) = nI b := rfl
          have e4 : XI none = -nI 1 := rfl
          rw [e3]
          rw [e4, List.length_append, List.length_singleton] at f1
          simp (disch := omega) only [h.mostOpen hO, e, h0, e2, cl2_so, cl1_so, ck_tr, zl_0, zl_1, zl_2, zl_3, zl_4, zl_5, zl_6, zl_7, zl_8, zl_9, zl_10, zl_11, zl_12, zl_15, zl_16, zl_20, zl_24, zl_25, zl_30, zl_31, zl_32, zl_33, zl_44, zl_48, zl_50, zl_57, zl_59, zl_60, zl_61, zl_62, zl_63, zl_64, zl_68, zl_97, zl_99, zl_100, zl_104, zl_108, zl_114, zl_120, zl_122, zl_126, zl_132, zl_180, zl_181, zl_186, zl_255, zl_900, zl_930, zl_1000, zl_1000000, nI_add, pk_mul, zs_sub, zs_lt, zs_le, zs_eq, zs_inb, zs_cl, zm_eq, zm_eq2, zm_lt, zm_le, mz_lt, mz_le, mm_eq, zs_bit, zs_or1, zs_div, zs_rem, ck_pos, if_pos, if_neg, true_or, or_true, true_and, and_true, false_or, or_false, false_and, and_false, not_true, not_false_iff, if_true, if_false, eq_self, Bool.false_eq_true, cl2_id, Bool.not_true, Bool.not_false]
          exact f1
    · have h0 := rd_1 hg
      cases cur with
      | none =>
        have ez : zsp (fun v => rd (z_word r w) (zT r s side v (s 60))) k (j + 1) none = zsp (fun v => rd (z_word r w) (zT r s side v (s 60))) (k + 1) j (some k) := by rw [zsp]; simp only [hg]; rfl
        rw [ez]
        obtain ⟨m2, f1, f2⟩ := ih (k + 1) n D (some k) m1 g2 (by omega) (by omega) (by simp [curL] at hl ⊢; omega) hX2 (fun b q => by cases q; omega)
        refine ⟨m2, ?_, g1.tr f2⟩
        have e3 : XI (some k) = nI k := rfl
        have e4 : XI none = -nI 1 := rfl
        rw [e4]
        rw [e3] at f1
        simp (disch := omega) only [h.mostOpen hO, e, cl2_so, cl1_so, ck_tr, zl_0, zl_1, zl_2, zl_3, zl_4, zl_5, zl_6, zl_7, zl_8, zl_9, zl_10, zl_11, zl_12, zl_15, zl_16, zl_20, zl_24, zl_25, zl_30, zl_31, zl_32, zl_33, zl_44, zl_48, zl_50, zl_57, zl_59, zl_60, zl_61, zl_62, zl_63, zl_64, zl_68, zl_97, zl_99, zl_100, zl_104, zl_108, zl_114, zl_120, zl_122, zl_126, zl_132, zl_180, zl_181, zl_186, zl_255, zl_900, zl_930, zl_1000, zl_1000000, nI_add, pk_mul, zs_sub, zs_lt, zs_le, zs_eq, zs_inb, zs_cl, zm_eq, zm_eq2, zm_lt, zm_le, mz_lt, mz_le, mm_eq, zs_bit, zs_or1, zs_div, zs_rem, ck_pos, if_pos, if_neg, true_or, or_true, true_and, and_true, false_or, or_false, false_and, and_false, not_true, not_false_iff, if_true, if_false, eq_self, Bool.false_eq_true, cl2_id, Bool.not_true, Bool.not_false]
        exact f1
      | some b =>
        have hb := hc b rfl
        have ez : zsp (fun v => rd (z_word r w) (zT r s side v (s 60))) k (j + 1) (some b) = zsp (fun v => rd (z_word r w) (zT r s side v (s 60))) (k + 1) j (some b) := by rw [zsp]; simp only [hg]; rfl
        rw [ez]
        obtain ⟨m2, f1, f2⟩ := ih (k + 1) n D (some b) m1 g2 (by omega) (by omega) (by simp [curL] at hl ⊢; omega) hX2 (fun b' q => by cases q; omega)
        refine ⟨m2, ?_, g1.tr f2⟩
        have e3 : XI (some b) = nI b := rfl
        rw [e3] at f1 ⊢
        simp (disch := omega) only [h.mostOpen hO, e, cl2_so, cl1_so, ck_tr, zl_0, zl_1, zl_2, zl_3, zl_4, zl_5, zl_6, zl_7, zl_8, zl_9, zl_10, zl_11, zl_12, zl_15, zl_16, zl_20, zl_24, zl_25, zl_30, zl_31, zl_32, zl_33, zl_44, zl_48, zl_50, zl_57, zl_59, zl_60, zl_61, zl_62, zl_63, zl_64, zl_68, zl_97, zl_99, zl_100, zl_104, zl_108, zl_114, zl_120, zl_122, zl_126, zl_132, zl_180, zl_181, zl_186, zl_255, zl_900, zl_930, zl_1000, zl_1000000, nI_add, pk_mul, zs_sub, zs_lt, zs_le, zs_eq, zs_inb, zs_cl, zm_eq, zm_eq2, zm_lt, zm_le, mz_lt, mz_le, mm_eq, zs_bit, zs_or1, zs_div, zs_rem, ck_pos, if_pos, if_neg, true_or, or_true, true_and, and_true, false_or, or_false, false_and, and_false, not_true, not_false_iff, if_true, if_false, eq_self, Bool.false_eq_true, cl2_id, Bool.not_true, Bool.not_false]
        exact f1
theorem KM.spans (h : KM m r s) (hO : KO r s) {w side : Nat} (hw : w < r 5) (hs : side ≤ 1) {X : Option Nat} {L : Int32} (hX : ∀ i, X = some i → i < 2147483648) : ∃ m', fX11_spanOf (nI w) (nI side) (XI X) L m = some (spR X L (zsp (fun v => rd (z_word r w) (zT r s side v (s 60))) 0 (z_mo r + 1) none), m') ∧ Ak sN m m' := by
  have hmo := z_mo_le hO.1.1
  exact so9 hO hw hs hX (z_mo r + 1) 0 FU [] none m h (by omega) (FU_pos (by omega)) (by simp [curL]) (fun i hi => by simp) (fun b q => by cases q)
theorem zsp_len (g : Nat → Bool) : ∀ j k cur, (zsp g k j cur).length ≤ j + (curL k cur).length
  | 0, k, none => by simp [zsp]
  | 0, k, some b => by simp [zsp, curL]
  | j + 1, k, none => by
    have h1 := zsp_len g j (k + 1) (some k)
    have h2 := zsp_len g j (k + 1) none
    rw [zsp]
    simp only [curL, List.length_nil, List.length_singleton] at h1 h2 ⊢
    split <;> omega
  | j + 1, k, some b => by
    have h1 := zsp_len g j (k + 1) (some b)
    have h2 := zsp_len g j (k + 1) none
    rw [zsp]
    simp only [curL, List.length_nil, List.length_singleton] at h1 h2 ⊢
    split
    · omega
    · simp only [List.length_cons]
      omega
theorem zsp_mem (g : Nat → Bool) : ∀ j k cur, (∀ b, cur = some b → b ≤ k) → ∀ p ∈ zsp g k j cur, p.1 ≤ k + j ∧ p.2 ≤ k + j
  | 0, k, none, _, p, hp => by simp [zsp] at hp
  | 0, k, some b, h, p, hp => by
    simp [zsp] at hp
    subst hp
    have := h b rfl
    exact ⟨by show b ≤ _; omega, by show k - 1 ≤ _; omega⟩
  | j + 1, k, none, h, p, hp => by
    rw [zsp] at hp
    split at hp
    · have := zsp_mem g j (k + 1) (some k) (fun b q => by cases q; omega) p hp
      omega
    · have := zsp_mem g j (k + 1) none (fun b q => by cases q) p hp
      omega
  | j + 1, k, some b, h, p, hp => by
    have hb := h b rfl
    rw [zsp] at hp
    split at hp
    · have := zsp_mem g j (k + 1) (some b) (fun b' q => by cases q; omega) p hp
      omega
    · rcases List.mem_cons.mp hp with rfl | hp
      · exact ⟨by show b ≤ _; omega, by show k - 1 ≤ _; omega⟩
      · have := zsp_mem g j (k + 1) none (fun b' q => by cases q) p hp
        omega
theorem zs_back (a b : Int32) : a - b + b = a := Int32.sub_add_cancel a b
def vs2 (H : Bool) (r : Nat → Nat) (x1 x2 : Int32) : Bool := vN H (r 5) x1 && vN H 2 x2
theorem b_spans (hI : Inv m) (hC : JC m H r s) (hM : JM m H r s) (hO : JO H r s) : Both (fX10_spans x1 x2) (fX11_spans x1 x2) m := by
  cases hv : vN H (r 5) x1
  · refine ⟨-nI 1, 1, ?_, fun m1 h1 => ?_⟩
    · unfold fX10_spans fX10_spans_16
      simp (disch := omega) only [fX10_noWord_e hC, hv, cl2_so, cl1_so, ck_tr, zl_0, zl_1, zl_2, zl_3, zl_4, zl_5, zl_6, zl_7, zl_8, zl_9, zl_10, zl_11, zl_12, zl_15, zl_16, zl_20, zl_24, zl_25, zl_30, zl_31, zl_32, zl_33, zl_44, zl_48, zl_50, zl_57, zl_59, zl_60, zl_61, zl_62, zl_63, zl_64, zl_68, zl_97, zl_99, zl_100, zl_104, zl_108, zl_114, zl_120, zl_122, zl_126, zl_132, zl_180, zl_181, zl_186, zl_255, zl_900, zl_930, zl_1000, zl_1000000, nI_add, pk_mul, zs_sub, zs_lt, zs_le, zs_eq, zs_inb, zs_cl, zm_eq, zm_eq2, zm_lt, zm_le, mz_lt, mz_le, mm_eq, zs_bit, zs_or1, zs_div, zs_rem, ck_pos, if_pos, if_neg, true_or, or_true, true_and, and_true, false_or, or_false, false_and, and_false, not_true, not_false_iff, if_true, if_false, eq_self, Bool.false_eq_true, cl2_id, Bool.not_true, Bool.not_false]
      exact ansC_no 1 (Ak.rf m)
    · have hM1 := hM.ag (h1.agC.tr (gd_ak m1).agM)
      unfold fX11_spans fX11_spans_35 fX11_spans_40
      simp (disch := omega) only [gd_e, fX11_isWordThere_e hM1 hO, hv, cl2_so, cl1_so, ck_tr, zl_0, zl_1, zl_2, zl_3, zl_4, zl_5, zl_6, zl_7, zl_8, zl_9, zl_10, zl_11, zl_12, zl_15, zl_16, zl_20, zl_24, zl_25, zl_30, zl_31, zl_32, zl_33, zl_44, zl_48, zl_50, zl_57, zl_59, zl_60, zl_61, zl_62, zl_63, zl_64, zl_68, zl_97, zl_99, zl_100, zl_104, zl_108, zl_114, zl_120, zl_122, zl_126, zl_132, zl_180, zl_181, zl_186, zl_255, zl_900, zl_930, zl_1000, zl_1000000, nI_add, pk_mul, zs_sub, zs_lt, zs_le, zs_eq, zs_inb, zs_cl, zm_eq, zm_eq2, zm_lt, zm_le, mz_lt, mz_le, mm_eq, zs_bit, zs_or1, zs_div, zs_rem, ck_pos, if_pos, if_neg, true_or, or_true, true_and, and_true, false_or, or_false, false_and, and_false, not_true, not_false_iff, if_true, if_false, eq_self, Bool.false_eq_true, cl2_id, Bool.not_true, Bool.not_false]
      exact ansM_no 1 (gd_ak m1)
  · cases hv2 : vN H 2 x2
    · refine ⟨-nI 1, 1, ?_, fun m1 h1 => ?_⟩
      · unfold fX10_spans fX10_spans_16
        simp (disch := omega) only [fX10_noWord_e hC, hv, fX10_noSide_e hC, hv2, cl2_so, cl1_so, ck_tr, zl_0, zl_1, zl_2, zl_3, zl_4, zl_5, zl_6, zl_7, zl_8, zl_9, zl_10, zl_11, zl_12, zl_15, zl_16, zl_20, zl_24, zl_25, zl_30, zl_31, zl_32, zl_33, zl_44, zl_48, zl_50, zl_57, zl_59, zl_60, zl_61, zl_62, zl_63, zl_64, zl_68, zl_97, zl_99, zl_100, zl_104, zl_108, zl_114, zl_120, zl_122, zl_126, zl_132, zl_180, zl_181, zl_186, zl_255, zl_900, zl_930, zl_1000, zl_1000000, nI_add, pk_mul, zs_sub, zs_lt, zs_le, zs_eq, zs_inb, zs_cl, zm_eq, zm_eq2, zm_lt, zm_le, mz_lt, mz_le, mm_eq, zs_bit, zs_or1, zs_div, zs_rem, ck_pos, if_pos, if_neg, true_or, or_true, true_and, and_true, false_or, or_false, false_and, and_false, not_true, not_false_iff, if_true, if_false, eq_self, Bool.false_eq_true, cl2_id, Bool.not_true, Bool.not_false]
        exact ansC_no 1 (Ak.rf m)
      · have hM1 := hM.ag (h1.agC.tr (gd_ak m1).agM)
        unfold fX11_spans fX11_spans_35 fX11_spans_40
        simp (disch := omega) only [gd_e, fX11_isWordThere_e hM1 hO, hv, fX11_isSide_e hM1, hv2, cl2_so, cl1_so, ck_tr, zl_0, zl_1, zl_2, zl_3, zl_4, zl_5, zl_6, zl_7, zl_8, zl_9, zl_10, zl_11, zl_12, zl_15, zl_16, zl_20, zl_24, zl_25, zl_30, zl_31, zl_32, zl_33, zl_44, zl_48, zl_50, zl_57, zl_59, zl_60, zl_61, zl_62, zl_63, zl_64, zl_68, zl_97, zl_99, zl_100, zl_104, zl_108, zl_114, zl_120, zl_122, zl_126, zl_132, zl_180, zl_181, zl_186, zl_255, zl_900, zl_930, zl_1000, zl_1000000, nI_add, pk_mul, zs_sub, zs_lt, zs_le, zs_eq, zs_inb, zs_cl, zm_eq, zm_eq2, zm_lt, zm_le, mz_lt, mz_le, mm_eq, zs_bit, zs_or1, zs_div, zs_rem, ck_pos, if_pos, if_neg, true_or, or_true, true_and, and_true, false_or, or_false, false_and, and_false, not_true, not_false_iff, if_true, if_false, eq_self, Bool.false_eq_true, cl2_id, Bool.not_true, Bool.not_false]
        exact ansM_no 1 (gd_ak m1)
    · have hH := vN_H hv
      subst hH
      have hK : KO r s := hO rfl
      have h5 := hK.1.2.2.2.1
      obtain ⟨w, hw, rfl⟩ := vN_in (hK.1.2.1 5 (by decide)) hv
      obtain ⟨side, hs, rfl⟩ := vN_in (by decide) hv2
      obtain ⟨m', e, g1, g2, g3⟩ := (hC.kc hI).spans hK hw (side := side) (by omega)
      refine ⟨nI (zsp (fun v => rd (z_word r w) (zT r s side v (s 60))) 0 (z_mo r + 1) none).length, 0, ?_, fun m1 h1 => ?_⟩
      · unfold fX10_spans fX10_spans_16
        simp (disch := omega) only [fX10_noWord_e hC, hv, fX10_noSide_e hC, hv2, (hC.kc hI).1, e, cl2_so, cl1_so, ck_tr, zl_0, zl_1, zl_2, zl_3, zl_4, zl_5, zl_6, zl_7, zl_8, zl_9, zl_10, zl_11, zl_12, zl_15, zl_16, zl_20, zl_24, zl_25, zl_30, zl_31, zl_32, zl_33, zl_44, zl_48, zl_50, zl_57, zl_59, zl_60, zl_61, zl_62, zl_63, zl_64, zl_68, zl_97, zl_99, zl_100, zl_104, zl_108, zl_114, zl_120, zl_122, zl_126, zl_132, zl_180, zl_181, zl_186, zl_255, zl_900, zl_930, zl_1000, zl_1000000, nI_add, pk_mul, zs_sub, zs_lt, zs_le, zs_eq, zs_inb, zs_cl, zm_eq, zm_eq2, zm_lt, zm_le, mz_lt, mz_le, mm_eq, zs_bit, zs_or1, zs_div, zs_rem, ck_pos, if_pos, if_neg, true_or, or_true, true_and, and_true, false_or, or_false, false_and, and_false, not_true, not_false_iff, if_true, if_false, eq_self, Bool.false_eq_true, cl2_id, Bool.not_true, Bool.not_false]
        exact ansC_ok _ g1
      · have hM1 := hM.ag (h1.agC.tr (gd_ak m1).agM)
        obtain ⟨m2, e2, f1⟩ := hM1.km.spans hK hw (side := side) (by omega) (X := none) (L := nI 0) (fun i q => by cases q)
        unfold fX11_spans fX11_spans_35 fX11_spans_40
        have ex : XI none = -nI 1 := rfl
        rw [ex] at e2
        simp (disch := omega) only [gd_e, fX11_isWordThere_e hM1 hO, hv, fX11_isSide_e hM1, hv2, e2, spR, zs_back, cl2_so, cl1_so, ck_tr, zl_0, zl_1, zl_2, zl_3, zl_4, zl_5, zl_6, zl_7, zl_8, zl_9, zl_10, zl_11, zl_12, zl_15, zl_16, zl_20, zl_24, zl_25, zl_30, zl_31, zl_32, zl_33, zl_44, zl_48, zl_50, zl_57, zl_59, zl_60, zl_61, zl_62, zl_63, zl_64, zl_68, zl_97, zl_99, zl_100, zl_104, zl_108, zl_114, zl_120, zl_122, zl_126, zl_132, zl_180, zl_181, zl_186, zl_255, zl_900, zl_930, zl_1000, zl_1000000, nI_add, pk_mul, zs_sub, zs_lt, zs_le, zs_eq, zs_inb, zs_cl, zm_eq, zm_eq2, zm_lt, zm_le, mz_lt, mz_le, mm_eq, zs_bit, zs_or1, zs_div, zs_rem, ck_pos, if_pos, if_neg, true_or, or_true, true_and, and_true, false_or, or_false, false_and, and_false, not_true, not_false_iff, if_true, if_false, eq_self, Bool.false_eq_true, cl2_id, Bool.not_true, Bool.not_false]
        exact ansN_ok _ f1
theorem fl2_at (D : List (Nat × Nat)) : ∀ i p, D[i]? = some p → (fl2 D).getD (2 * i) 0 = p.1 ∧ (fl2 D).getD (2 * i + 1) 0 = p.2 := by
  induction D with
  | nil => intro i p h; simp at h
  | cons q D ih =>
    intro i p h
    cases i with
    | zero => simp at h; subst h; simp [fl2]
    | succ i =>
      simp at h
      have := ih i p h
      simp [fl2] at this ⊢
      exact this
theorem b_span (hI : Inv m) (hC : JC m H r s) (hM : JM m H r s) (hO : JO H r s) : Both (fX10_span x1 x2 x3 x4) (fX11_span x1 x2 x3 x4) m := by
  cases hv : vN H (r 5) x1
  · refine ⟨-nI 1, 1, ?_, fun m1 h1 => ?_⟩
    · unfold fX10_span fX10_span_16
      simp (disch := omega) only [fX10_noWord_e hC, hv, cl2_so, cl1_so, ck_tr, zl_0, zl_1, zl_2, zl_3, zl_4, zl_5, zl_6, zl_7, zl_8, zl_9, zl_10, zl_11, zl_12, zl_15, zl_16, zl_20, zl_24, zl_25, zl_30, zl_31, zl_32, zl_33, zl_44, zl_48, zl_50, zl_57, zl_59, zl_60, zl_61, zl_62, zl_63, zl_64, zl_68, zl_97, zl_99, zl_100, zl_104, zl_108, zl_114, zl_120, zl_122, zl_126, zl_132, zl_180, zl_181, zl_186, zl_255, zl_900, zl_930, zl_1000, zl_1000000, nI_add, pk_mul, zs_sub, zs_lt, zs_le, zs_eq, zs_inb, zs_cl, zm_eq, zm_eq2, zm_lt, zm_le, mz_lt, mz_le, mm_eq, zs_bit, zs_or1, zs_div, zs_rem, ck_pos, if_pos, if_neg, true_or, or_true, true_and, and_true, false_or, or_false, false_and, and_false, not_true, not_false_iff, if_true, if_false, eq_self, Bool.false_eq_true, cl2_id, Bool.not_true, Bool.not_false]
      exact ansC_no 1 (Ak.rf m)
    · have hM1 := hM.ag (h1.agC.tr (gd_ak m1).agM)
      unfold fX11_span fX11_span_24
      simp (disch := omega) only [gd_e, fX11_isWordThere_e hM1 hO, hv, cl2_so, cl1_so, ck_tr, zl_0, zl_1, zl_2, zl_3, zl_4, zl_5, zl_6, zl_7, zl_8, zl_9, zl_10, zl_11, zl_12, zl_15, zl_16, zl_20, zl_24, zl_25, zl_30, zl_31, zl_32, zl_33, zl_44, zl_48, zl_50, zl_57, zl_59, zl_60, zl_61, zl_62, zl_63, zl_64, zl_68, zl_97, zl_99, zl_100, zl_104, zl_108, zl_114, zl_120, zl_122, zl_126, zl_132, zl_180, zl_181, zl_186, zl_255, zl_900, zl_930, zl_1000, zl_1000000, nI_add, pk_mul, zs_sub, zs_lt, zs_le, zs_eq, zs_inb, zs_cl, zm_eq, zm_eq2, zm_lt, zm_le, mz_lt, mz_le, mm_eq, zs_bit, zs_or1, zs_div, zs_rem, ck_pos, if_pos, if_neg, true_or, or_true, true_and, and_true, false_or, or_false, false_and, and_false, not_true, not_false_iff, if_true, if_false, eq_self, Bool.false_eq_true, cl2_id, Bool.not_true, Bool.not_false]
      exact ansM_no 1 (gd_ak m1)
  · cases hv2 : vN H 2 x2
    · refine ⟨-nI 1, 1, ?_, fun m1 h1 => ?_⟩
      · unfold fX10_span fX10_span_16
        simp (disch := omega) only [fX10_noWord_e hC, hv, fX10_noSide_e hC, hv2, cl2_so, cl1_so, ck_tr, zl_0, zl_1, zl_2, zl_3, zl_4, zl_5, zl_6, zl_7, zl_8, zl_9, zl_10, zl_11, zl_12, zl_15, zl_16, zl_20, zl_24, zl_25, zl_30, zl_31, zl_32, zl_33, zl_44, zl_48, zl_50, zl_57, zl_59, zl_60, zl_61, zl_62, zl_63, zl_64, zl_68, zl_97, zl_99, zl_100, zl_104, zl_108, zl_114, zl_120, zl_122, zl_126, zl_132, zl_180, zl_181, zl_186, zl_255, zl_900, zl_930, zl_1000, zl_1000000, nI_add, pk_mul, zs_sub, zs_lt, zs_le, zs_eq, zs_inb, zs_cl, zm_eq, zm_eq2, zm_lt, zm_le, mz_lt, mz_le, mm_eq, zs_bit, zs_or1, zs_div, zs_rem, ck_pos, if_pos, if_neg, true_or, or_true, true_and, and_true, false_or, or_false, false_and, and_false, not_true, not_false_iff, if_true, if_false, eq_self, Bool.false_eq_true, cl2_id, Bool.not_true, Bool.not_false]
        exact ansC_no 1 (Ak.rf m)
      · have hM1 := hM.ag (h1.agC.tr (gd_ak m1).agM)
        unfold fX11_span fX11_span_24
        simp (disch := omega) only [gd_e, fX11_isWordThere_e hM1 hO, hv, fX11_isSide_e hM1, hv2, cl2_so, cl1_so, ck_tr, zl_0, zl_1, zl_2, zl_3, zl_4, zl_5, zl_6, zl_7, zl_8, zl_9, zl_10, zl_11, zl_12, zl_15, zl_16, zl_20, zl_24, zl_25, zl_30, zl_31, zl_32, zl_33, zl_44, zl_48, zl_50, zl_57, zl_59, zl_60, zl_61, zl_62, zl_63, zl_64, zl_68, zl_97, zl_99, zl_100, zl_104, zl_108, zl_114, zl_120, zl_122, zl_126, zl_132, zl_180, zl_181, zl_186, zl_255, zl_900, zl_930, zl_1000, zl_1000000, nI_add, pk_mul, zs_sub, zs_lt, zs_le, zs_eq, zs_inb, zs_cl, zm_eq, zm_eq2, zm_lt, zm_le, mz_lt, mz_le, mm_eq, zs_bit, zs_or1, zs_div, zs_rem, ck_pos, if_pos, if_neg, true_or, or_true, true_and, and_true, false_or, or_false, false_and, and_false, not_true, not_false_iff, if_true, if_false, eq_self, Bool.false_eq_true, cl2_id, Bool.not_true, Bool.not_false]
        exact ansM_no 1 (gd_ak m1)
    · have hH := vN_H hv
      subst hH
      have hK : KO r s := hO rfl
      have h5 := hK.1.2.2.2.1
      have hmo := z_mo_le hK.1.1
      obtain ⟨w, hw, rfl⟩ := vN_in (hK.1.2.1 5 (by decide)) hv
      obtain ⟨side, hs, rfl⟩ := vN_in (by decide) hv2
      obtain ⟨m', e, g1, g2, g3⟩ := (hC.kc hI).spans hK hw (side := side) (by omega)
      have hlen := zsp_len (fun v => rd (z_word r w) (zT r s side v (s 60))) (z_mo r + 1) 0 none
      simp only [curL, List.length_nil] at hlen
      have hmem := zsp_mem (fun v => rd (z_word r w) (zT r s side v (s 60))) (z_mo r + 1) 0 none (fun b q => by cases q)
      have hf2 := fl2_len (zsp (fun v => rd (z_word r w) (zT r s side v (s 60))) 0 (z_mo r + 1) none)
      by_cases h3 : x3 < 0
      · have h3' : x3 < nI 0 := h3
        have h3'' : ¬ nI 0 ≤ x3 := Int32.not_le.mpr h3
        refine ⟨-nI 1, 1, ?_, fun m1 h1 => ?_⟩
        · unfold fX10_span fX10_span_48
          simp (disch := omega) only [fX10_noWord_e hC, hv, fX10_noSide_e hC, hv2, (hC.kc hI).1, e, h3', cl2_so, cl1_so, ck_tr, zl_0, zl_1, zl_2, zl_3, zl_4, zl_5, zl_6, zl_7, zl_8, zl_9, zl_10, zl_11, zl_12, zl_15, zl_16, zl_20, zl_24, zl_25, zl_30, zl_31, zl_32, zl_33, zl_44, zl_48, zl_50, zl_57, zl_59, zl_60, zl_61, zl_62, zl_63, zl_64, zl_68, zl_97, zl_99, zl_100, zl_104, zl_108, zl_114, zl_120, zl_122, zl_126, zl_132, zl_180, zl_181, zl_186, zl_255, zl_900, zl_930, zl_1000, zl_1000000, nI_add, pk_mul, zs_sub, zs_lt, zs_le, zs_eq, zs_inb, zs_cl, zm_eq, zm_eq2, zm_lt, zm_le, mz_lt, mz_le, mm_eq, zs_bit, zs_or1, zs_div, zs_rem, ck_pos, if_pos, if_neg, true_or, or_true, true_and, and_true, false_or, or_false, false_and, and_false, not_true, not_false_iff, if_true, if_false, eq_self, Bool.false_eq_true, cl2_id, Bool.not_true, Bool.not_false]
          exact ansC_no _ g1
        · have hM1 := hM.ag (h1.agC.tr (gd_ak m1).agM)
          unfold fX11_span fX11_span_24
          simp (disch := omega) only [gd_e, fX11_isWordThere_e hM1 hO, hv, fX11_isSide_e hM1, hv2, h3'', cl2_so, cl1_so, ck_tr, zl_0, zl_1, zl_2, zl_3, zl_4, zl_5, zl_6, zl_7, zl_8, zl_9, zl_10, zl_11, zl_12, zl_15, zl_16, zl_20, zl_24, zl_25, zl_30, zl_31, zl_32, zl_33, zl_44, zl_48, zl_50, zl_57, zl_59, zl_60, zl_61, zl_62, zl_63, zl_64, zl_68, zl_97, zl_99, zl_100, zl_104, zl_108, zl_114, zl_120, zl_122, zl_126, zl_132, zl_180, zl_181, zl_186, zl_255, zl_900, zl_930, zl_1000, zl_1000000, nI_add, pk_mul, zs_sub, zs_lt, zs_le, zs_eq, zs_inb, zs_cl, zm_eq, zm_eq2, zm_lt, zm_le, mz_lt, mz_le, mm_eq, zs_bit, zs_or1, zs_div, zs_rem, ck_pos, if_pos, if_neg, true_or, or_true, true_and, and_true, false_or, or_false, false_and, and_false, not_true, not_false_iff, if_true, if_false, eq_self, Bool.false_eq_true, cl2_id, Bool.not_true, Bool.not_false]
          exact ansM_no 1 (gd_ak m1)
      · obtain ⟨i, hi, rfl⟩ := nI_of h3
        have hM2 : ∀ m1, Ak sC m m1 → ∃ m2, fX11_spanOf (nI w) (nI side) (nI i) x4 (gdM m1) = some (spR (some i) x4 (zsp (fun v => rd (z_word r w) (zT r s side v (s 60))) 0 (z_mo r + 1) none), m2) ∧ Ak sN (gdM m1) m2 := fun m1 h1 => (hM.ag (h1.agC.tr (gd_ak m1).agM)).km.spans hK hw (by omega) (X := some i) (fun i q => by cases q; omega)
        generalize zsp (fun v => rd (z_word r w) (zT r s side v (s 60))) 0 (z_mo r + 1) none = l at *
        by_cases hl : i < l.length
        · have hp : l[i]? = some l[i] := List.getElem?_eq_getElem hl
          obtain ⟨ea, eb⟩ := fl2_at l i _ hp
          have ga := g3 (2 * i) (by omega)
          have gb := g3 (2 * i + 1) (by omega)
          rw [ea] at ga
          rw [eb] at gb
          by_cases h4 : x4 = nI 0
          · refine ⟨nI l[i].1, 0, ?_, fun m1 h1 => ?_⟩
            · unfold fX10_span fX10_span_72
              simp (disch := omega) only [fX10_noWord_e hC, hv, fX10_noSide_e hC, hv2, (hC.kc hI).1, e, h4, Nat.add_zero, ga, cl2_so, cl1_so, ck_tr, zl_0, zl_1, zl_2, zl_3, zl_4, zl_5, zl_6, zl_7, zl_8, zl_9, zl_10, zl_11, zl_12, zl_15, zl_16, zl_20, zl_24, zl_25, zl_30, zl_31, zl_32, zl_33, zl_44, zl_48, zl_50, zl_57, zl_59, zl_60, zl_61, zl_62, zl_63, zl_64, zl_68, zl_97, zl_99, zl_100, zl_104, zl_108, zl_114, zl_120, zl_122, zl_126, zl_132, zl_180, zl_181, zl_186, zl_255, zl_900, zl_930, zl_1000, zl_1000000, nI_add, pk_mul, zs_sub, zs_lt, zs_le, zs_eq, zs_inb, zs_cl, zm_eq, zm_eq2, zm_lt, zm_le, mz_lt, mz_le, mm_eq, zs_bit, zs_or1, zs_div, zs_rem, ck_pos, if_pos, if_neg, true_or, or_true, true_and, and_true, false_or, or_false, false_and, and_false, not_true, not_false_iff, if_true, if_false, eq_self, Bool.false_eq_true, cl2_id, Bool.not_true, Bool.not_false]
              exact ansC_ok _ g1
            · have hM1 := hM.ag (h1.agC.tr (gd_ak m1).agM)
              obtain ⟨m2, e2, f1⟩ := hM2 m1 h1
              have e3 : spR (some i) x4 l = nI l[i].1 := by unfold spR; simp only [hp]; rw [if_pos h4]
              rw [e3] at e2
              have hb : nI 0 ≤ nI l[i].1 := nI_pos' (by have := hmem _ (List.getElem_mem hl); omega)
              unfold fX11_span fX11_span_24 fX11_span_56
              simp (disch := omega) only [gd_e, fX11_isWordThere_e hM1 hO, hv, fX11_isSide_e hM1, hv2, e2, hb, cl2_so, cl1_so, ck_tr, zl_0, zl_1, zl_2, zl_3, zl_4, zl_5, zl_6, zl_7, zl_8, zl_9, zl_10, zl_11, zl_12, zl_15, zl_16, zl_20, zl_24, zl_25, zl_30, zl_31, zl_32, zl_33, zl_44, zl_48, zl_50, zl_57, zl_59, zl_60, zl_61, zl_62, zl_63, zl_64, zl_68, zl_97, zl_99, zl_100, zl_104, zl_108, zl_114, zl_120, zl_122, zl_126, zl_132, zl_180, zl_181, zl_186, zl_255, zl_900, zl_930, zl_1000, zl_1000000, nI_add, pk_mul, zs_sub, zs_lt, zs_le, zs_eq, zs_inb, zs_cl, zm_eq, zm_eq2, zm_lt, zm_le, mz_lt, mz_le, mm_eq, zs_bit, zs_or1, zs_div, zs_rem, ck_pos, if_pos, if_neg, true_or, or_true, true_and, and_true, false_or, or_false, false_and, and_false, not_true, not_false_iff, if_true, if_false, eq_self, Bool.false_eq_true, cl2_id, Bool.not_true, Bool.not_false]
              exact ansN_ok _ f1
          · refine ⟨nI l[i].2, 0, ?_, fun m1 h1 => ?_⟩
            · unfold fX10_span fX10_span_72
              simp (disch := omega) only [fX10_noWord_e hC, hv, fX10_noSide_e hC, hv2, (hC.kc hI).1, e, h4, gb, cl2_so, cl1_so, ck_tr, zl_0, zl_1, zl_2, zl_3, zl_4, zl_5, zl_6, zl_7, zl_8, zl_9, zl_10, zl_11, zl_12, zl_15, zl_16, zl_20, zl_24, zl_25, zl_30, zl_31, zl_32, zl_33, zl_44, zl_48, zl_50, zl_57, zl_59, zl_60, zl_61, zl_62, zl_63, zl_64, zl_68, zl_97, zl_99, zl_100, zl_104, zl_108, zl_114, zl_120, zl_122, zl_126, zl_132, zl_180, zl_181, zl_186, zl_255, zl_900, zl_930, zl_1000, zl_1000000, nI_add, pk_mul, zs_sub, zs_lt, zs_le, zs_eq, zs_inb, zs_cl, zm_eq, zm_eq2, zm_lt, zm_le, mz_lt, mz_le, mm_eq, zs_bit, zs_or1, zs_div, zs_rem, ck_pos, if_pos, if_neg, true_or, or_true, true_and, and_true, false_or, or_false, false_and, and_false, not_true, not_false_iff, if_true, if_false, eq_self, Bool.false_eq_true, cl2_id, Bool.not_true, Bool.not_false]
              exact ansC_ok _ g1
            · have hM1 := hM.ag (h1.agC.tr (gd_ak m1).agM)
              obtain ⟨m2, e2, f1⟩ := hM2 m1 h1
              have e3 : spR (some i) x4 l = nI l[i].2 := by unfold spR; simp only [hp]; rw [if_neg h4]
              rw [e3] at e2
              have hb : nI 0 ≤ nI l[i].2 := nI_pos' (by have := hmem _ (List.getElem_mem hl); omega)
              unfold fX11_span fX11_span_24 fX11_span_56
              simp (disch := omega) only [gd_e, fX11_isWordThere_e hM1 hO, hv, fX11_isSide_e hM1, hv2, e2, hb, cl2_so, cl1_so, ck_tr, zl_0, zl_1, zl_2, zl_3, zl_4, zl_5, zl_6, zl_7, zl_8, zl_9, zl_10, zl_11, zl_12, zl_15, zl_16, zl_20, zl_24, zl_25, zl_30, zl_31, zl_32, zl_33, zl_44, zl_48, zl_50, zl_57, zl_59, zl_60, zl_61, zl_62, zl_63, zl_64, zl_68, zl_97, zl_99, zl_100, zl_104, zl_108, zl_114, zl_120, zl_122, zl_126, zl_132, zl_180, zl_181, zl_186, zl_255, zl_900, zl_930, zl_1000, zl_1000000, nI_add, pk_mul, zs_sub, zs_lt, zs_le, zs_eq, zs_inb, zs_cl, zm_eq, zm_eq2, zm_lt, zm_le, mz_lt, mz_le, mm_eq, zs_bit, zs_or1, zs_div, zs_rem, ck_pos, if_pos, if_neg, true_or, or_true, true_and, and_true, false_or, or_false, false_and, and_false, not_true, not_false_iff, if_true, if_false, eq_self, Bool.false_eq_true, cl2_id, Bool.not_true, Bool.not_false]
              exact ansN_ok _ f1
        · refine ⟨-nI 1, 1, ?_, fun m1 h1 => ?_⟩
          · unfold fX10_span fX10_span_48
            simp (disch := omega) only [fX10_noWord_e hC, hv, fX10_noSide_e hC, hv2, (hC.kc hI).1, e, cl2_so, cl1_so, ck_tr, zl_0, zl_1, zl_2, zl_3, zl_4, zl_5, zl_6, zl_7, zl_8, zl_9, zl_10, zl_11, zl_12, zl_15, zl_16, zl_20, zl_24, zl_25, zl_30, zl_31, zl_32, zl_33, zl_44, zl_48, zl_50, zl_57, zl_59, zl_60, zl_61, zl_62, zl_63, zl_64, zl_68, zl_97, zl_99, zl_100, zl_104, zl_108, zl_114, zl_120, zl_122, zl_126, zl_132, zl_180, zl_181, zl_186, zl_255, zl_900, zl_930, zl_1000, zl_1000000, nI_add, pk_mul, zs_sub, zs_lt, zs_le, zs_eq, zs_inb, zs_cl, zm_eq, zm_eq2, zm_lt, zm_le, mz_lt, mz_le, mm_eq, zs_bit, zs_or1, zs_div, zs_rem, ck_pos, if_pos, if_neg, true_or, or_true, true_and, and_true, false_or, or_false, false_and, and_false, not_true, not_false_iff, if_true, if_false, eq_self, Bool.false_eq_true, cl2_id, Bool.not_true, Bool.not_false]
            exact ansC_no _ g1
          · have hM1 := hM.ag (h1.agC.tr (gd_ak m1).agM)
            obtain ⟨m2, e2, f1⟩ := hM2 m1 h1
            rw [spR_no (fun i' q => by cases q; omega)] at e2
            have hb : ¬ nI 0 ≤ nI l.length - nI 1000 := Int32.not_le.mpr (pk_sneg (by omega) (by omega))
            unfold fX11_span fX11_span_24 fX11_span_56
            simp (disch := omega) only [gd_e, fX11_isWordThere_e hM1 hO, hv, fX11_isSide_e hM1, hv2, e2, hb, cl2_so, cl1_so, ck_tr, zl_0, zl_1, zl_2, zl_3, zl_4, zl_5, zl_6, zl_7, zl_8, zl_9, zl_10, zl_11, zl_12, zl_15, zl_16, zl_20, zl_24, zl_25, zl_30, zl_31, zl_32, zl_33, zl_44, zl_48, zl_50, zl_57, zl_59, zl_60, zl_61, zl_62, zl_63, zl_64, zl_68, zl_97, zl_99, zl_100, zl_104, zl_108, zl_114, zl_120, zl_122, zl_126, zl_132, zl_180, zl_181, zl_186, zl_255, zl_900, zl_930, zl_1000, zl_1000000, nI_add, pk_mul, zs_sub, zs_lt, zs_le, zs_eq, zs_inb, zs_cl, zm_eq, zm_eq2, zm_lt, zm_le, mz_lt, mz_le, mm_eq, zs_bit, zs_or1, zs_div, zs_rem, ck_pos, if_pos, if_neg, true_or, or_true, true_and, and_true, false_or, or_false, false_and, and_false, not_true, not_false_iff, if_true, if_false, eq_self, Bool.false_eq_true, cl2_id, Bool.not_true, Bool.not_false]
            exact ansN_no _ f1
end C5
