/-! mendAll: how the class gathers the wishes of a side, claims and releases -/
def uN : Option Nat → Int32
  | none => -nI 1
  | some l => nI l
def fltr (r : Nat → Nat) (l : Nat) (L : List Nat) : List Nat := L.filter (fun i => decide (r (64 + i) = l))
theorem getD_app {L : List Nat} {x d : Nat} (h : d < L.length) : (L ++ [x]).getD d 0 = L.getD d 0 := getD_l h
theorem getD_snoc (L : List Nat) (x : Nat) : (L ++ [x]).getD L.length 0 = x := by
  rw [List.getD_eq_getElem?_getD, List.getElem?_append_right (Nat.le_refl _), Nat.sub_self]
  rfl
section MA4
variable {m : Me} {H : Bool} {t : Nat} {r s : Nat → Nat} {x1 x2 x3 x4 : Int32}
def Fk (m m' : Me) : Prop := Ak sC m m' ∧ (∀ b k, b ≠ 99 → b ≠ 100 → m'.1 b k = m.1 b k) ∧ m'.2 = m.2
theorem Fk.rf (m : Me) : Fk m m := ⟨Ak.rf m, fun _ _ _ _ => rfl, rfl⟩
theorem Fk.tr {m m' m'' : Me} (h : Fk m m') (h' : Fk m' m'') : Fk m m'' := ⟨h.1.tr h'.1, fun b k a c => (h'.2.1 b k a c).trans (h.2.1 b k a c), h'.2.2.trans h.2.2⟩
theorem Fk.s9 {m m' : Me} (h : Fk m m') {j : Nat} (x : Int32) : Fk m (setI m' 99 j x) := ⟨h.1.set x (sC_in (by omega) j), fun b k a c => (sI_na a).trans (h.2.1 b k a c), h.2.2⟩
theorem Fk.s0 {m m' : Me} (h : Fk m m') {j : Nat} (x : Int32) : Fk m (setI m' 100 j x) := ⟨h.1.set x (sC_in (by omega) j), fun b k a c => (sI_na c).trans (h.2.1 b k a c), h.2.2⟩
def GS (m : Me) (t : Nat) (r s : Nat → Nat) (e : Nat) (is : List Nat) : Prop := m.1 96 2 = nI is.length ∧ ∀ d, d < is.length → m.2 98 d = some (t + 19 + 2 * is.getD d 0) ∧ RLt m (103 + 5 * d) (zT r s e (r (104 + is.getD d 0)) (s 60)) ∧ RCl m (103 + 5 * d) ((zWs r s (is.getD d 0)).map (z_cc r))
theorem GS.cg {m' : Me} {e : Nat} {is : List Nat} (h : GS m t r s e is) (a : ∀ c j, (c = 96 ∧ j = 2 ∨ 103 ≤ c) → m'.1 c j = m.1 c j) (er : m'.2 = m.2) : GS m' t r s e is := by
  refine ⟨(a _ _ (Or.inl ⟨rfl, rfl⟩)).trans h.1, fun d hd => ?_⟩
  obtain ⟨g1, ⟨g2, g3⟩, g4, g5⟩ := h.2 d hd
  exact ⟨by rw [er]; exact g1, ⟨(a _ _ (by omega)).trans g2, fun k hk => (a _ _ (by omega)).trans (g3 k hk)⟩, (a _ _ (by omega)).trans g4, fun k hk => (a _ _ (by omega)).trans (g5 k hk)⟩
theorem GS.fk {m' : Me} {e : Nat} {is : List Nat} (h : GS m t r s e is) (hF : Fk m m') : GS m' t r s e is := h.cg (fun c j z => hF.2.1 _ _ (by omega) (by omega)) hF.2.2
theorem GS.rr {e : Nat} {is : List Nat} (h : GS m t r s e is) {d : Nat} (hd : d < is.length) : rr m 98 d = t + 19 + 2 * is.getD d 0 := by
  unfold Jvm.Pilot.CFanPartsLaw_law_r1864_615eae.rr
  rw [(h.2 d hd).1]
  rfl
theorem ak_98 (k : Nat) (o : Option Nat) : Ak sC m (setR m 98 k o) := ⟨fun _ _ _ => rfl, fun a j h => if_neg (fun e => h e.1)⟩
theorem GS.add {e k : Nat} {is : List Nat} {m1 : Me} (hG : GS m t r s e is) (q : r (100 + k) = e) (f4 : RLt m1 (103 + 5 * is.length) (zT r s e (r (104 + k)) (s 60))) (f5 : RCl m1 (103 + 5 * is.length) ((z_show r e (r (104 + k)) (s 60)).map (z_cc r))) (f6 : ∀ b j, b ≠ 103 + 5 * is.length → b ≠ 103 + 5 * is.length + 1 → b ≠ 103 + 5 * is.length + 2 → m1.1 b j = m.1 b j) (f7 : m1.2 = (setR m 98 is.length (some (t + 19 + 2 * k))).2) : GS (setI m1 96 2 (nI (is.length + 1))) t r s e (is ++ [k]) := by
  refine ⟨by rw [sI_eq]; simp, fun d hd => ?_⟩
  rw [List.length_append, List.length_singleton] at hd
  have hz : ∀ c j, c ≠ 96 → (setI m1 96 2 (nI (is.length + 1))).1 c j = m1.1 c j := fun c j hc => sI_na hc
  by_cases qd : d = is.length
  · subst qd
    rw [getD_snoc]
    refine ⟨?_, ⟨(hz _ _ (by omega)).trans f4.1, fun k hk => (hz _ _ (by omega)).trans (f4.2 k hk)⟩, ?_⟩
    · show m1.2 98 is.length = _
      rw [f7]
      exact if_pos ⟨rfl, rfl⟩
    · have ez : zWs r s k = z_show r e (r (104 + k)) (s 60) := by unfold zWs; rw [q]
      rw [ez]
      exact ⟨(hz _ _ (by omega)).trans f5.1, fun k hk => (hz _ _ (by omega)).trans (f5.2 k hk)⟩
  · have hd' : d < is.length := by omega
    rw [getD_app hd']
    obtain ⟨g1, ⟨g2, g3⟩, g4, g5⟩ := hG.2 d hd'
    have a : ∀ c j, (103 + 5 * d ≤ c ∧ c ≤ 103 + 5 * d + 2) → (setI m1 96 2 (nI (is.length + 1))).1 c j = m.1 c j := fun c j hc => (hz _ _ (by omega)).trans (f6 _ _ (by omega) (by omega) (by omega))
    refine ⟨?_, ⟨(a _ _ (by omega)).trans g2, fun k hk => (a _ _ (by omega)).trans (g3 k hk)⟩, (a _ _ (by omega)).trans g4, fun k hk => (a _ _ (by omega)).trans (g5 k hk)⟩
    show m1.2 98 d = _
    rw [f7]
    show (if 98 = 98 ∧ d = is.length then some (t + 19 + 2 * k) else m.2 98 d) = _
    rw [if_neg (fun z => qd z.2)]
    exact g1
theorem fltr_no {e l k j : Nat} (h : ¬ (r (100 + k) = e ∧ r (64 + k) = l)) : fltr r l (sdL r e (k :: List.range' (k + 1) j)) = fltr r l (sdL r e (List.range' (k + 1) j)) := by
  unfold sdL
  by_cases q : r (100 + k) = e
  · rw [List.filter_cons, decide_eq_true q]
    unfold fltr
    rw [if_pos rfl, List.filter_cons, decide_eq_false (fun z => h ⟨q, z⟩)]
    rfl
  · rw [List.filter_cons, decide_eq_false q]
    rfl
theorem fltr_yes {e l k j : Nat} (h : r (100 + k) = e ∧ r (64 + k) = l) : fltr r l (sdL r e (k :: List.range' (k + 1) j)) = k :: fltr r l (sdL r e (List.range' (k + 1) j)) := by
  unfold sdL
  rw [List.filter_cons, decide_eq_true h.1]
  unfold fltr
  rw [if_pos rfl, List.filter_cons, decide_eq_true h.2]
  rfl
theorem ga17 (hO : KO r s) {e l : Nat} (he : e ≤ 1) (hl1 : 1 ≤ l) (hl8 : l ≤ 8) {k9 : Nat → Nat → Int32 → Int32 → Me → Option Me} : ∀ j k n is (m : Me), KC m t r s → GS m t r s e is → (is ++ fltr r l (sdL r e (List.range' k j))).length ≤ 4 → k + j = r 6 → j < n → ∃ m', fX3_gather_17 n k9 t 81 (nI e) (nI l) (nI k) m = k9 t 81 (nI e) (nI (l - 1)) m' ∧ Ak sC m m' ∧ KC m' t r s ∧ GS m' t r s e (is ++ fltr r l (sdL r e (List.range' k j))) := by
  have h6 := hO.1.2.2.2.2.1
  intro j
  induction j with
  | zero =>
    intro k n is m h hG hl hk hn
    obtain ⟨n, rfl⟩ : ∃ n', n = n' + 1 := ⟨n - 1, by omega⟩
    have e9 := h.2.2.1.2.1.2.2.1
    have ed := zs_dec hl1
    refine ⟨m, ?_, Ak.rf m, h, ?_⟩
    · rw [fX3_gather_17]
      simp (disch := omega) only [e9, ed, cl2_so, cl1_so, ck_tr, zl_0, zl_1, zl_2, zl_3, zl_4, zl_5, zl_6, zl_7, zl_8, zl_9, zl_10, zl_11, zl_12, zl_15, zl_16, zl_20, zl_24, zl_25, zl_30, zl_31, zl_32, zl_33, zl_44, zl_48, zl_50, zl_57, zl_59, zl_60, zl_61, zl_62, zl_63, zl_64, zl_68, zl_97, zl_99, zl_100, zl_104, zl_108, zl_114, zl_120, zl_122, zl_126, zl_132, zl_180, zl_181, zl_186, zl_255, zl_900, zl_930, zl_1000, zl_1000000, nI_add, pk_mul, zs_sub, zs_lt, zs_le, zs_eq, zs_inb, zs_cl, zm_eq, zm_eq2, zm_lt, zm_le, mz_lt, mz_le, mm_eq, zs_bit, zs_or1, zs_div, zs_rem, ck_pos, if_pos, if_neg, true_or, or_true, true_and, and_true, false_or, or_false, false_and, and_false, not_true, not_false_iff, if_true, if_false, eq_self, Bool.false_eq_true, cl2_id, Bool.not_true, Bool.not_false]
    · show GS m t r s e (is ++ [])
      rw [List.append_nil]
      exact hG
  | succ j ih =>
    intro k n is m h hG hl hk hn
    obtain ⟨n, rfl⟩ : ∃ n', n = n' + 1 := ⟨n - 1, by omega⟩
    have e9 := h.2.2.1.2.1.2.2.1
    have hi : k < r 6 := by omega
    obtain ⟨-, o1, o8, oS, oO, oL⟩ := hO.1.i hi
    obtain ⟨⟨w1, -⟩, w2, w3⟩ := h.wish hi
    rw [z_wish_len] at w1
    have ht := h.tt
    rw [List.range'_succ] at hl ⊢
    rw [fX3_gather_17]
    unfold fX3_gather_99
    by_cases q : r (100 + k) = e ∧ r (64 + k) = l
    · rw [fltr_yes q] at hl ⊢
      obtain ⟨q1, q2⟩ := q
      have ea : is ++ k :: fltr r l (sdL r e (List.range' (k + 1) j)) = (is ++ [k]) ++ fltr r l (sdL r e (List.range' (k + 1) j)) := by simp
      rw [ea] at hl ⊢
      have hl3 : is.length ≤ 3 := by
        rw [List.length_append, List.length_append, List.length_singleton] at hl
        omega
      have a1 := ak_98 (m := m) is.length (some (t + 19 + 2 * k))
      have h1 := h.ag hO a1.agC
      obtain ⟨m1, f1, f2, f3, f4, f5, f6, f7⟩ := h1.look hO (a := 103 + 5 * is.length) (side := e) (op := r (104 + k)) (br := s 60) ((by decide : ∀ j, j < 4 → kd (103 + 5 * j) = 7) _ (by omega)) he oO hO.s60
      have a2 : Ak sC m1 (setI m1 96 2 (nI (is.length + 1))) := (Ak.rf m1).set _ (sC_in (by omega) 2)
      have h2 := f3.ag hO a2.agC
      obtain ⟨m2, g1, g2, g3, g4⟩ := ih (k + 1) n (is ++ [k]) _ h2 (hG.add q1 f4 f5 f6 f7) hl (by omega) (by omega)
      refine ⟨m2, ?_, ((a1.tr f2).tr a2).tr g2, g3, g4⟩
      have c2 := hG.1
      have c2' : (setR m 98 is.length (some (t + 19 + 2 * k))).1 96 2 = nI is.length := c2
      have c81 : (setR m 98 is.length (some (t + 19 + 2 * k))).1 81 1 = nI (s 60) := h.2.2.2.1.2.1
      have c3 : (setR m 98 is.length (some (t + 19 + 2 * k))).1 (t + 19 + 2 * k) 3 = nI (r (104 + k)) := w3
      have c4 : m1.1 96 2 = nI is.length := (f6 _ _ (by omega) (by omega) (by omega)).trans c2
      rw [q1] at w2
      rw [q2] at w1
      simp (disch := omega) only [e9, w2, w1, c2, c2', c81, c3, f1, c4, cl2_so, cl1_so, ck_tr, zl_0, zl_1, zl_2, zl_3, zl_4, zl_5, zl_6, zl_7, zl_8, zl_9, zl_10, zl_11, zl_12, zl_15, zl_16, zl_20, zl_24, zl_25, zl_30, zl_31, zl_32, zl_33, zl_44, zl_48, zl_50, zl_57, zl_59, zl_60, zl_61, zl_62, zl_63, zl_64, zl_68, zl_97, zl_99, zl_100, zl_104, zl_108, zl_114, zl_120, zl_122, zl_126, zl_132, zl_180, zl_181, zl_186, zl_255, zl_900, zl_930, zl_1000, zl_1000000, nI_add, pk_mul, zs_sub, zs_lt, zs_le, zs_eq, zs_inb, zs_cl, zm_eq, zm_eq2, zm_lt, zm_le, mz_lt, mz_le, mm_eq, zs_bit, zs_or1, zs_div, zs_rem, ck_pos, if_pos, if_neg, true_or, or_true, true_and, and_true, false_or, or_false, false_and, and_false, not_true, not_false_iff, if_true, if_false, eq_self, Bool.false_eq_true, cl2_id, Bool.not_true, Bool.not_false]
      exact g1
    · rw [fltr_no q] at hl ⊢
      obtain ⟨m2, g1, g2⟩ := ih (k + 1) n is m h hG hl (by omega) (by omega)
      refine ⟨m2, ?_, g2⟩
      by_cases q1 : r (100 + k) = e
      · have q2 : ¬ r (64 + k) = l := fun z => q ⟨q1, z⟩
        rw [q1] at w2
        simp (disch := omega) only [e9, w2, w1, q2, cl2_so, cl1_so, ck_tr, zl_0, zl_1, zl_2, zl_3, zl_4, zl_5, zl_6, zl_7, zl_8, zl_9, zl_10, zl_11, zl_12, zl_15, zl_16, zl_20, zl_24, zl_25, zl_30, zl_31, zl_32, zl_33, zl_44, zl_48, zl_50, zl_57, zl_59, zl_60, zl_61, zl_62, zl_63, zl_64, zl_68, zl_97, zl_99, zl_100, zl_104, zl_108, zl_114, zl_120, zl_122, zl_126, zl_132, zl_180, zl_181, zl_186, zl_255, zl_900, zl_930, zl_1000, zl_1000000, nI_add, pk_mul, zs_sub, zs_lt, zs_le, zs_eq, zs_inb, zs_cl, zm_eq, zm_eq2, zm_lt, zm_le, mz_lt, mz_le, mm_eq, zs_bit, zs_or1, zs_div, zs_rem, ck_pos, if_pos, if_neg, true_or, or_true, true_and, and_true, false_or, or_false, false_and, and_false, not_true, not_false_iff, if_true, if_false, eq_self, Bool.false_eq_true, cl2_id, Bool.not_true, Bool.not_false]
        exact g1
      · simp (disch := omega) only [e9, w2, q1, cl2_so, cl1_so, ck_tr, zl_0, zl_1, zl_2, zl_3, zl_4, zl_5, zl_6, zl_7, zl_8, zl_9, zl_10, zl_11, zl_12, zl_15, zl_16, zl_20, zl_24, zl_25, zl_30, zl_31, zl_32, zl_33, zl_44, zl_48, zl_50, zl_57, zl_59, zl_60, zl_61, zl_62, zl_63, zl_64, zl_68, zl_97, zl_99, zl_100, zl_104, zl_108, zl_114, zl_120, zl_122, zl_126, zl_132, zl_180, zl_181, zl_186, zl_255, zl_900, zl_930, zl_1000, zl_1000000, nI_add, pk_mul, zs_sub, zs_lt, zs_le, zs_eq, zs_inb, zs_cl, zm_eq, zm_eq2, zm_lt, zm_le, mz_lt, mz_le, mm_eq, zs_bit, zs_or1, zs_div, zs_rem, ck_pos, if_pos, if_neg, true_or, or_true, true_and, and_true, false_or, or_false, false_and, and_false, not_true, not_false_iff, if_true, if_false, eq_self, Bool.false_eq_true, cl2_id, Bool.not_true, Bool.not_false]
        exact g1
theorem ga114 : ∀ j k n (m : Me), (∀ c, c < k → m.1 99 c = -nI 1 ∧ m.1 100 c = -nI 1) → k + j = 30 → j < n → ∃ m', fX3_gather_114 n (nI k) m = some m' ∧ Fk m m' ∧ (∀ c, c < 30 → m'.1 99 c = -nI 1 ∧ m'.1 100 c = -nI 1) := by
  intro j
  induction j with
  | zero =>
    intro k n m h hk hn
    obtain ⟨n, rfl⟩ : ∃ n', n = n' + 1 := ⟨n - 1, by omega⟩
    refine ⟨m, ?_, Fk.rf m, fun c hc => h c (by omega)⟩
    rw [fX3_gather_114]
    simp (disch := omega) only [cl2_so, cl1_so, ck_tr, zl_0, zl_1, zl_2, zl_3, zl_4, zl_5, zl_6, zl_7, zl_8, zl_9, zl_10, zl_11, zl_12, zl_15, zl_16, zl_20, zl_24, zl_25, zl_30, zl_31, zl_32, zl_33, zl_44, zl_48, zl_50, zl_57, zl_59, zl_60, zl_61, zl_62, zl_63, zl_64, zl_68, zl_97, zl_99, zl_100, zl_104, zl_108, zl_114, zl_120, zl_122, zl_126, zl_132, zl_180, zl_181, zl_186, zl_255, zl_900, zl_930, zl_1000, zl_1000000, nI_add, pk_mul, zs_sub, zs_lt, zs_le, zs_eq, zs_inb, zs_cl, zm_eq, zm_eq2, zm_lt, zm_le, mz_lt, mz_le, mm_eq, zs_bit, zs_or1, zs_div, zs_rem, ck_pos, if_pos, if_neg, true_or, or_true, true_and, and_true, false_or, or_false, false_and, and_false, not_true, not_false_iff, if_true, if_false, eq_self, Bool.false_eq_true, cl2_id, Bool.not_true, Bool.not_false]
  | succ j ih =>
    intro k n m h hk hn
    obtain ⟨n, rfl⟩ : ∃ n', n = n' + 1 := ⟨n - 1, by omega⟩
    obtain ⟨m2, f1, f2, f3⟩ := ih (k + 1) n (setI (setI m 99 k (-nI 1)) 100 k (-nI 1)) (fun c hc => by
      by_cases q : c = k
      · subst q
        exact ⟨(sI_na (by decide)).trans (sI_eq _ _ _ _), sI_eq _ _ _ _⟩
      · exact ⟨((sI_na (by decide)).trans (sI_nj q)).trans (h c (by omega)).1, ((sI_nj q).trans (sI_na (by decide))).trans (h c (by omega)).2⟩) (by omega) (by omega)
    refine ⟨m2, ?_, (((Fk.rf m).s9 _).s0 _).tr f2, f3⟩
    rw [fX3_gather_114]
    simp (disch := omega) only [cl2_so, cl1_so, ck_tr, zl_0, zl_1, zl_2, zl_3, zl_4, zl_5, zl_6, zl_7, zl_8, zl_9, zl_10, zl_11, zl_12, zl_15, zl_16, zl_20, zl_24, zl_25, zl_30, zl_31, zl_32, zl_33, zl_44, zl_48, zl_50, zl_57, zl_59, zl_60, zl_61, zl_62, zl_63, zl_64, zl_68, zl_97, zl_99, zl_100, zl_104, zl_108, zl_114, zl_120, zl_122, zl_126, zl_132, zl_180, zl_181, zl_186, zl_255, zl_900, zl_930, zl_1000, zl_1000000, nI_add, pk_mul, zs_sub, zs_lt, zs_le, zs_eq, zs_inb, zs_cl, zm_eq, zm_eq2, zm_lt, zm_le, mz_lt, mz_le, mm_eq, zs_bit, zs_or1, zs_div, zs_rem, ck_pos, if_pos, if_neg, true_or, or_true, true_and, and_true, false_or, or_false, false_and, and_false, not_true, not_false_iff, if_true, if_false, eq_self, Bool.false_eq_true, cl2_id, Bool.not_true, Bool.not_false]
    exact f1
def sdR (r : Nat → Nat) (e : Nat) : List Nat := sdL r e (List.range' 0 (r 6))
theorem sdR_ok (hO : OKr r) {e : Nat} : (sdR r e).length ≤ 4 ∧ (∀ i ∈ sdR r e, i < r 6 ∧ r (100 + i) = e) := by
  have h6 := hO.2.2.2.2.1
  have h1 : ∀ i ∈ sdR r e, i < r 6 ∧ r (100 + i) = e := sdL_in (fun i hi => by have := List.mem_range'_1.mp hi; omega)
  refine ⟨?_, h1⟩
  have := List.length_filter_le (fun i => decide (r (100 + i) = e)) (List.range' 0 (r 6))
  rw [List.length_range'] at this
  unfold sdR sdL
  omega
theorem ga9 (hO : KO r s) {e : Nat} (he : e ≤ 1) : ∀ l n is (m : Me), l ≤ 8 → KC m t r s → GS m t r s e is → (is ++ gsl r (sdR r e) l).length ≤ 4 → l < n → ∃ m', fX3_gather_9 n t 81 (nI e) (nI l) m = fX3_gather_114 FU (nI 0) m' ∧ Ak sC m m' ∧ KC m' t r s ∧ GS m' t r s e (is ++ gsl r (sdR r e) l) := by
  have h6 := hO.1.2.2.2.2.1
  intro l
  induction l with
  | zero =>
    intro n is m hl h hG hi hn
    obtain ⟨n, rfl⟩ : ∃ n', n = n' + 1 := ⟨n - 1, by omega⟩
    refine ⟨m, ?_, Ak.rf m, h, ?_⟩
    · rw [fX3_gather_9]
      simp (disch := omega) only [cl2_so, cl1_so, ck_tr, zl_0, zl_1, zl_2, zl_3, zl_4, zl_5, zl_6, zl_7, zl_8, zl_9, zl_10, zl_11, zl_12, zl_15, zl_16, zl_20, zl_24, zl_25, zl_30, zl_31, zl_32, zl_33, zl_44, zl_48, zl_50, zl_57, zl_59, zl_60, zl_61, zl_62, zl_63, zl_64, zl_68, zl_97, zl_99, zl_100, zl_104, zl_108, zl_114, zl_120, zl_122, zl_126, zl_132, zl_180, zl_181, zl_186, zl_255, zl_900, zl_930, zl_1000, zl_1000000, nI_add, pk_mul, zs_sub, zs_lt, zs_le, zs_eq, zs_inb, zs_cl, zm_eq, zm_eq2, zm_lt, zm_le, mz_lt, mz_le, mm_eq, zs_bit, zs_or1, zs_div, zs_rem, ck_pos, if_pos, if_neg, true_or, or_true, true_and, and_true, false_or, or_false, false_and, and_false, not_true, not_false_iff, if_true, if_false, eq_self, Bool.false_eq_true, cl2_id, Bool.not_true, Bool.not_false]
    · show GS m t r s e (is ++ [])
      rw [List.append_nil]
      exact hG
  | succ l ih =>
    intro n is m hl h hG hi hn
    obtain ⟨n, rfl⟩ : ∃ n', n = n' + 1 := ⟨n - 1, by omega⟩
    have eg : is ++ gsl r (sdR r e) (l + 1) = (is ++ fltr r (l + 1) (sdL r e (List.range' 0 (r 6)))) ++ gsl r (sdR r e) l := by
      rw [gsl, ← List.append_assoc]
      rfl
    rw [eg] at hi ⊢
    obtain ⟨m1, f1, f2, f3, f4⟩ := ga17 (t := t) hO he (l := l + 1) (by omega) hl (k9 := fX3_gather_9 n) (r 6) 0 FU is m h hG (by
      rw [List.length_append] at hi
      omega) (by omega) (FU_pos (by omega))
    obtain ⟨m2, g1, g2, g3, g4⟩ := ih n _ m1 (by omega) f3 f4 hi (by omega)
    refine ⟨m2, ?_, f2.tr g2, g3, g4⟩
    rw [fX3_gather_9]
    simp (disch := omega) only [cl2_so, cl1_so, ck_tr, zl_0, zl_1, zl_2, zl_3, zl_4, zl_5, zl_6, zl_7, zl_8, zl_9, zl_10, zl_11, zl_12, zl_15, zl_16, zl_20, zl_24, zl_25, zl_30, zl_31, zl_32, zl_33, zl_44, zl_48, zl_50, zl_57, zl_59, zl_60, zl_61, zl_62, zl_63, zl_64, zl_68, zl_97, zl_99, zl_100, zl_104, zl_108, zl_114, zl_120, zl_122, zl_126, zl_132, zl_180, zl_181, zl_186, zl_255, zl_900, zl_930, zl_1000, zl_1000000, nI_add, pk_mul, zs_sub, zs_lt, zs_le, zs_eq, zs_inb, zs_cl, zm_eq, zm_eq2, zm_lt, zm_le, mz_lt, mz_le, mm_eq, zs_bit, zs_or1, zs_div, zs_rem, ck_pos, if_pos, if_neg, true_or, or_true, true_and, and_true, false_or, or_false, false_and, and_false, not_true, not_false_iff, if_true, if_false, eq_self, Bool.false_eq_true, cl2_id, Bool.not_true, Bool.not_false]
    rw [f1]
    exact g1
def sdS (r : Nat → Nat) (e : Nat) : List Nat := gsl r (sdR r e) 8
theorem sdS_perm (hO : OKr r) {e : Nat} : (sdS r e).Perm (sdR r e) := gsl_all (fun i hi => by
  have := hO.i ((sdR_ok hO).2 i hi).1
  omega)
theorem sdS_ok (hO : OKr r) {e : Nat} : (sdS r e).length ≤ 4 ∧ (∀ i ∈ sdS r e, i < r 6 ∧ r (100 + i) = e) ∧ ∀ d, d < (sdS r e).length → (sdS r e).getD d 0 < r 6 ∧ r (100 + (sdS r e).getD d 0) = e := by
  have hp := sdS_perm hO (e := e)
  obtain ⟨h1, h2⟩ := sdR_ok hO (e := e)
  have h3 : ∀ i ∈ sdS r e, i < r 6 ∧ r (100 + i) = e := fun i hi => h2 i (hp.subset hi)
  exact ⟨by rw [hp.length_eq]; exact h1, h3, fun d hd => h3 _ (getD_mem0 hd)⟩
theorem KC.gather (h : KC m t r s) (hO : KO r s) {e : Nat} (he : e ≤ 1) : ∃ m', fX3_gather t 81 (nI e) m = some m' ∧ Ak sC m m' ∧ KC m' t r s ∧ GS m' t r s e (sdS r e) ∧ (∀ c, c < 30 → m'.1 99 c = -nI 1 ∧ m'.1 100 c = -nI 1) := by
  have a1 : Ak sC m (setI m 96 2 (nI 0)) := (Ak.rf m).set _ (sC_in (by omega) 2)
  obtain ⟨m1, f1, f2, f3, f4⟩ := ga9 (t := t) hO he 8 FU [] _ (by omega) (h.ag hO a1.agC) ⟨sI_eq _ _ _ _, fun d hd => by simp at hd⟩ (by rw [List.nil_append]; exact (sdS_ok hO.1).1) (FU_pos (by omega))
  obtain ⟨m2, g1, g2, g3⟩ := ga114 30 0 FU m1 (fun c hc => by omega) (by omega) (FU_pos (by omega))
  rw [List.nil_append] at f4
  refine ⟨m2, ?_, (a1.tr f2).tr g2.1, f3.ag hO g2.1.agC, f4.fk g2, g3⟩
  unfold fX3_gather
  exact f1.trans g1
/-- what the class holds of the wish at a depth -/
def GW (m : Me) (t : Nat) (r s : Nat → Nat) (e d i : Nat) : Prop := i < r 6 ∧ r (100 + i) = e ∧ rr m 98 d = t + 19 + 2 * i ∧ SY m (t + 19 + 2 * i) (z_wish r i) ∧ m.1 (103 + 5 * d) 2 = nI (zWs r s i).length ∧ (∀ k, k < (zWs r s i).length → m.1 (103 + 5 * d + 1) k = nI (z_cc r ((zWs r s i).getD k 0)) ∧ m.1 (103 + 5 * d + 2) k = nI (s (30 * e + (zWs r s i).getD k 0)))
def Sd (r : Nat → Nat) (e : Nat) (is : List Nat) : Prop := is.length ≤ 4 ∧ ∀ d, d < is.length → is.getD d 0 < r 6 ∧ r (100 + is.getD d 0) = e
theorem GS.gw {e : Nat} {is : List Nat} (h : GS m t r s e is) (hK : KC m t r s) (his : Sd r e is) {d : Nat} (hd : d < is.length) : GW m t r s e d (is.getD d 0) := by
  obtain ⟨h1, h2⟩ := his.2 d hd
  obtain ⟨-, ⟨g2, g3⟩, g4, g5⟩ := h.2 d hd
  have el : (zT r s e (r (104 + is.getD d 0)) (s 60)).length = (zWs r s (is.getD d 0)).length := by
    unfold zWs
    rw [h2]
    exact zT_len _ _ _
  have e0 : zWs r s (is.getD d 0) = z_show r e (r (104 + is.getD d 0)) (s 60) := by unfold zWs; rw [h2]
  refine ⟨h1, h2, h.rr hd, (hK.wish h1).1, by rw [← el]; exact g2, fun k hk => ⟨?_, ?_⟩⟩
  · rw [g5 k (by simpa using hk), getD_map0 hk]
  · rw [g3 k (by rw [el]; exact hk), e0, zT_at (by rw [← e0]; exact hk)]
theorem GW.sy {e d i : Nat} (h : GW m t r s e d i) : m.1 (t + 19 + 2 * i) 1 = nI (r (64 + i)) ∧ ∀ k, k < r (64 + i) → m.1 (t + 19 + 2 * i + 1) k = nI (mlt r i k) := by
  obtain ⟨-, -, -, ⟨h1, h2⟩, -⟩ := h
  rw [z_wish_len] at h1 h2
  refine ⟨h1, fun k hk => ?_⟩
  rw [h2 k hk]
  congr 1
  exact z_w_at hk
/-! whether a wish has no PLACE -/
def lkp (r s : Nat → Nat) (is : List Nat) (d : Nat) : Bool := z_bare (z_wish r (is.getD d 0)) || decide ((zWs r s (is.getD d 0)).length < r (64 + is.getD d 0))
theorem lpl_e (hO : KO r s) {e d i : Nat} (hG : GW m t r s e d i) (hd : d < 4) (hl : r (64 + i) ≤ (zWs r s i).length) : fX3_lastPlace (nI d) m = some (nI ((zWs r s i).length - r (64 + i)), m) := by
  obtain ⟨f1, f2⟩ := hG.sy
  obtain ⟨hi, he, er, -, g1, g2⟩ := hG
  have hL := (zWs_ok hO hi).1
  unfold fX3_lastPlace
  simp (disch := omega) only [er, g1, f1, cl2_so, cl1_so, ck_tr, zl_0, zl_1, zl_2, zl_3, zl_4, zl_5, zl_6, zl_7, zl_8, zl_9, zl_10, zl_11, zl_12, zl_15, zl_16, zl_20, zl_24, zl_25, zl_30, zl_31, zl_32, zl_33, zl_44, zl_48, zl_50, zl_57, zl_59, zl_60, zl_61, zl_62, zl_63, zl_64, zl_68, zl_97, zl_99, zl_100, zl_104, zl_108, zl_114, zl_120, zl_122, zl_126, zl_132, zl_180, zl_181, zl_186, zl_255, zl_900, zl_930, zl_1000, zl_1000000, nI_add, pk_mul, zs_sub, zs_lt, zs_le, zs_eq, zs_inb, zs_cl, zm_eq, zm_eq2, zm_lt, zm_le, mz_lt, mz_le, mm_eq, zs_bit, zs_or1, zs_div, zs_rem, ck_pos, if_pos, if_neg, true_or, or_true, true_and, and_true, false_or, or_false, false_and, and_false, not_true, not_false_iff, if_true, if_false, eq_self, Bool.false_eq_true, cl2_id, Bool.not_true, Bool.not_false]
theorem lkp2 (hO : KO r s) {e : Nat} {is : List Nat} (h : KC m t r s) (hG : GS m t r s e is) (his : Sd r e is) : ∀ j k n, k + j = is.length → j < n → fX3_lacksPlace_2 n (nI k) m = some (nI (if z_al (fun d => !lkp r s is d) k j = true then 0 else 1), m) := by
  have h4 := his.1
  intro j
  induction j with
  | zero =>
    intro k n hk hn
    obtain ⟨n, rfl⟩ : ∃ n', n = n' + 1 := ⟨n - 1, by omega⟩
    rw [fX3_lacksPlace_2, z_al]
    simp (disch := omega) only [hG.1, cl2_so, cl1_so, ck_tr, zl_0, zl_1, zl_2, zl_3, zl_4, zl_5, zl_6, zl_7, zl_8, zl_9, zl_10, zl_11, zl_12, zl_15, zl_16, zl_20, zl_24, zl_25, zl_30, zl_31, zl_32, zl_33, zl_44, zl_48, zl_50, zl_57, zl_59, zl_60, zl_61, zl_62, zl_63, zl_64, zl_68, zl_97, zl_99, zl_100, zl_104, zl_108, zl_114, zl_120, zl_122, zl_126, zl_132, zl_180, zl_181, zl_186, zl_255, zl_900, zl_930, zl_1000, zl_1000000, nI_add, pk_mul, zs_sub, zs_lt, zs_le, zs_eq, zs_inb, zs_cl, zm_eq, zm_eq2, zm_lt, zm_le, mz_lt, mz_le, mm_eq, zs_bit, zs_or1, zs_div, zs_rem, ck_pos, if_pos, if_neg, true_or, or_true, true_and, and_true, false_or, or_false, false_and, and_false, not_true, not_false_iff, if_true, if_false, eq_self, Bool.false_eq_true, cl2_id, Bool.not_true, Bool.not_false]
  | succ j ih =>
    intro k n hk hn
    obtain ⟨n, rfl⟩ : ∃ n', n = n' + 1 := ⟨n - 1, by omega⟩
    have hw := hG.gw h his (d := k) (by omega)
    have hw0 := hw
    obtain ⟨f1, f2⟩ := hw.sy
    obtain ⟨hi, he, er, hsy, g1, g2⟩ := hw
    have hwk := wish_ok hO.1 hi
    have hL := (zWs_ok hO hi).1
    have o8 := (hO.1.i hi).2.2.1
    have eb := fX8_hasBare_e hsy hwk.2.1 hwk.2.2
    have c2 := hG.1
    rw [fX3_lacksPlace_2, z_al]
    unfold fX3_lacksPlace_30
    cases hz : z_bare (z_wish r (is.getD k 0))
    · rw [hz] at eb
      simp only [Bool.false_eq_true, if_false] at eb
      by_cases hlen : r (64 + is.getD k 0) ≤ (zWs r s (is.getD k 0)).length
      · have e1 := lpl_e hO hw0 (by omega) hlen
        have e2 : lkp r s is k = false := by unfold lkp; rw [hz, decide_eq_false (by omega)]; rfl
        rw [e2]
        simp only [Bool.not_false, Bool.true_and]
        simp (disch := omega) only [c2, er, eb, e1, cl2_so, cl1_so, ck_tr, zl_0, zl_1, zl_2, zl_3, zl_4, zl_5, zl_6, zl_7, zl_8, zl_9, zl_10, zl_11, zl_12, zl_15, zl_16, zl_20, zl_24, zl_25, zl_30, zl_31, zl_32, zl_33, zl_44, zl_48, zl_50, zl_57, zl_59, zl_60, zl_61, zl_62, zl_63, zl_64, zl_68, zl_97, zl_99, zl_100, zl_104, zl_108, zl_114, zl_120, zl_122, zl_126, zl_132, zl_180, zl_181, zl_186, zl_255, zl_900, zl_930, zl_1000, zl_1000000, nI_add, pk_mul, zs_sub, zs_lt, zs_le, zs_eq, zs_inb, zs_cl, zm_eq, zm_eq2, zm_lt, zm_le, mz_lt, mz_le, mm_eq, zs_bit, zs_or1, zs_div, zs_rem, ck_pos, if_pos, if_neg, true_or, or_true, true_and, and_true, false_or, or_false, false_and, and_false, not_true, not_false_iff, if_true, if_false, eq_self, Bool.false_eq_true, cl2_id, Bool.not_true, Bool.not_false]
        exact ih (k + 1) n (by omega) (by omega)
      · have e2 : lkp r s is k = true := by unfold lkp; rw [hz, decide_eq_true (by omega)]; rfl
        rw [e2]
        have hneg : nI (zWs r s (is.getD k 0)).length - nI (r (64 + is.getD k 0)) < nI 0 := pk_sneg (by omega) (by omega)
        have hno : ¬ nI 0 ≤ nI (zWs r s (is.getD k 0)).length - nI (r (64 + is.getD k 0)) := Int32.not_le.mpr hneg
        have e1 : fX3_lastPlace (nI k) m = some (nI (zWs r s (is.getD k 0)).length - nI (r (64 + is.getD k 0)), m) := by
          unfold fX3_lastPlace
          simp (disch := omega) only [er, g1, f1, cl2_so, cl1_so, ck_tr, zl_0, zl_1, zl_2, zl_3, zl_4, zl_5, zl_6, zl_7, zl_8, zl_9, zl_10, zl_11, zl_12, zl_15, zl_16, zl_20, zl_24, zl_25, zl_30, zl_31, zl_32, zl_33, zl_44, zl_48, zl_50, zl_57, zl_59, zl_60, zl_61, zl_62, zl_63, zl_64, zl_68, zl_97, zl_99, zl_100, zl_104, zl_108, zl_114, zl_120, zl_122, zl_126, zl_132, zl_180, zl_181, zl_186, zl_255, zl_900, zl_930, zl_1000, zl_1000000, nI_add, pk_mul, zs_sub, zs_lt, zs_le, zs_eq, zs_inb, zs_cl, zm_eq, zm_eq2, zm_lt, zm_le, mz_lt, mz_le, mm_eq, zs_bit, zs_or1, zs_div, zs_rem, ck_pos, if_pos, if_neg, true_or, or_true, true_and, and_true, false_or, or_false, false_and, and_false, not_true, not_false_iff, if_true, if_false, eq_self, Bool.false_eq_true, cl2_id, Bool.not_true, Bool.not_false]
        simp only [Bool.not_true, Bool.false_and, Bool.false_eq_true, if_false]
        simp (disch := omega) only [c2, er, eb, cl2_so, cl1_so, ck_tr, zl_0, zl_1, zl_2, zl_3, zl_4, zl_5, zl_6, zl_7, zl_8, zl_9, zl_10, zl_11, zl_12, zl_15, zl_16, zl_20, zl_24, zl_25, zl_30, zl_31, zl_32, zl_33, zl_44, zl_48, zl_50, zl_57, zl_59, zl_60, zl_61, zl_62, zl_63, zl_64, zl_68, zl_97, zl_99, zl_100, zl_104, zl_108, zl_114, zl_120, zl_122, zl_126, zl_132, zl_180, zl_181, zl_186, zl_255, zl_900, zl_930, zl_1000, zl_1000000, nI_add, pk_mul, zs_sub, zs_lt, zs_le, zs_eq, zs_inb, zs_cl, zm_eq, zm_eq2, zm_lt, zm_le, mz_lt, mz_le, mm_eq, zs_bit, zs_or1, zs_div, zs_rem, ck_pos, if_pos, if_neg, true_or, or_true, true_and, and_true, false_or, or_false, false_and, and_false, not_true, not_false_iff, if_true, if_false, eq_self, Bool.false_eq_true, cl2_id, Bool.not_true, Bool.not_false]
        rw [e1]
        simp (disch := omega) only [cl2_so, cl1_so, ck_tr, zl_0, zl_1, zl_2, zl_3, zl_4, zl_5, zl_6, zl_7, zl_8, zl_9, zl_10, zl_11, zl_12, zl_15, zl_16, zl_20, zl_24, zl_25, zl_30, zl_31, zl_32, zl_33, zl_44, zl_48, zl_50, zl_57, zl_59, zl_60, zl_61, zl_62, zl_63, zl_64, zl_68, zl_97, zl_99, zl_100, zl_104, zl_108, zl_114, zl_120, zl_122, zl_126, zl_132, zl_180, zl_181, zl_186, zl_255, zl_900, zl_930, zl_1000, zl_1000000, nI_add, pk_mul, zs_sub, zs_lt, zs_le, zs_eq, zs_inb, zs_cl, zm_eq, zm_eq2, zm_lt, zm_le, mz_lt, mz_le, mm_eq, zs_bit, zs_or1, zs_div, zs_rem, ck_pos, if_pos, if_neg, true_or, or_true, true_and, and_true, false_or, or_false, false_and, and_false, not_true, not_false_iff, if_true, if_false, eq_self, Bool.false_eq_true, cl2_id, Bool.not_true, Bool.not_false]
    · rw [hz] at eb
      simp only [if_true] at eb
      have e2 : lkp r s is k = true := by unfold lkp; rw [hz]; rfl
      rw [e2]
      simp only [Bool.not_true, Bool.false_and, Bool.false_eq_true, if_false]
      simp (disch := omega) only [c2, er, eb, cl2_so, cl1_so, ck_tr, zl_0, zl_1, zl_2, zl_3, zl_4, zl_5, zl_6, zl_7, zl_8, zl_9, zl_10, zl_11, zl_12, zl_15, zl_16, zl_20, zl_24, zl_25, zl_30, zl_31, zl_32, zl_33, zl_44, zl_48, zl_50, zl_57, zl_59, zl_60, zl_61, zl_62, zl_63, zl_64, zl_68, zl_97, zl_99, zl_100, zl_104, zl_108, zl_114, zl_120, zl_122, zl_126, zl_132, zl_180, zl_181, zl_186, zl_255, zl_900, zl_930, zl_1000, zl_1000000, nI_add, pk_mul, zs_sub, zs_lt, zs_le, zs_eq, zs_inb, zs_cl, zm_eq, zm_eq2, zm_lt, zm_le, mz_lt, mz_le, mm_eq, zs_bit, zs_or1, zs_div, zs_rem, ck_pos, if_pos, if_neg, true_or, or_true, true_and, and_true, false_or, or_false, false_and, and_false, not_true, not_false_iff, if_true, if_false, eq_self, Bool.false_eq_true, cl2_id, Bool.not_true, Bool.not_false]
/-! claims -/
def NB (m : Me) (r : Nat → Nat) (e : Nat) (N B : Nat → Option Nat) : Prop := ∀ x, x < 30 → vx r x → m.1 99 (z_cc r x) = uN (N (30 * e + x)) ∧ m.1 100 (z_cc r x) = uN (B x) ∧ (∀ l, N (30 * e + x) = some l → l ≤ 25) ∧ (∀ q, B x = some q → q < 4) ∧ (N (30 * e + x) = none ↔ B x = none)
theorem NB.cg {m' : Me} {e : Nat} {N B : Nat → Option Nat} (h : NB m r e N B) (a : ∀ b k, b = 99 ∨ b = 100 → m'.1 b k = m.1 b k) : NB m' r e N B := fun x hx hv => by
  rw [a 99 _ (Or.inl rfl), a 100 _ (Or.inr rfl)]
  exact h x hx hv
def RlB (r s : Nat → Nat) (e i p d k : Nat) (N0 B0 N B : Nat → Option Nat) : Prop := ∀ x, x < 30 → vx r x → (B0 x ≠ none → B x = B0 x ∧ N (30 * e + x) = N0 (30 * e + x)) ∧ (B0 x = none → (B x = none ∧ N (30 * e + x) = none) ∨ (B x = some d ∧ ∃ q, k ≤ q ∧ q < r (64 + i) ∧ x = (zWs r s i).getD (p + q) 0))
theorem NB.w9 {e d g l : Nat} {N B : Nat → Option Nat} (hf : z_fan r) (h : NB m r e N B) (hg : g < 30) (hv : vx r g) (hl : l ≤ 25) (hd : d < 4) : NB (setI (setI m 99 (z_cc r g) (nI l)) 100 (z_cc r g) (nI d)) r e (updU N (30 * e + g) l) (updU B g d) := by
  intro x hx vxx
  by_cases q : x = g
  · subst q
    unfold updU
    rw [if_pos rfl, if_pos rfl]
    refine ⟨(sI_na (by decide)).trans (sI_eq _ _ _ _), sI_eq _ _ _ _, fun l' z => ?_, fun q z => ?_, ?_⟩
    · have := Option.some.inj z; omega
    · have := Option.some.inj z; omega
    · exact ⟨fun z => (by cases z), fun z => (by cases z)⟩
  · have qc : z_cc r x ≠ z_cc r g := fun z => q (cc_inj hf vxx hv z)
    unfold updU
    rw [if_neg (show ¬ 30 * e + x = 30 * e + g by omega), if_neg q, sI_na (by decide), sI_nj qc, sI_nj qc, sI_na (by decide)]
    exact h x hx vxx
/-- what the class holds of the wish at a depth, and that it has a PLACE -/
def Wdh (m : Me) (t : Nat) (r s : Nat → Nat) (e : Nat) (is : List Nat) : Prop := KC m t r s ∧ GS m t r s e is ∧ Sd r e is
theorem Wdh.fk {m' : Me} {e : Nat} {is : List Nat} (h : Wdh m t r s e is) (hO : KO r s) (hF : Fk m m') : Wdh m' t r s e is := ⟨h.1.ag hO hF.1.agC, h.2.1.fk hF, h.2.2⟩
theorem Wdh.gw {e d i : Nat} {is : List Nat} (h : Wdh m t r s e is) (hd : d < is.length) (hid : is.getD d 0 = i) : GW m t r s e d i := by
  rw [← hid]
  exact h.2.1.gw h.1 h.2.2 hd
theorem clm2 (hO : KO r s) {e i d p : Nat} {is : List Nat} (hd : d < is.length) (hid : is.getD d 0 = i) (hp : p + r (64 + i) ≤ (zWs r s i).length) {N0 B0 : Nat → Option Nat} : ∀ j k n N B (m : Me), Wdh m t r s e is → NB m r e N B → RlB r s e i p d 0 N0 B0 N B → k + j = r (64 + i) → j < n → ∃ m' B', fX3_claim_2 n (nI d) (nI p) (nI k) m = some m' ∧ Fk m m' ∧ NB m' r e (ovl N (plc r s i p k j)) B' ∧ RlB r s e i p d 0 N0 B0 (ovl N (plc r s i p k j)) B' := by
  intro j
  induction j with
  | zero =>
    intro k n N B m h hN hR hk hn
    obtain ⟨n, rfl⟩ : ∃ n', n = n' + 1 := ⟨n - 1, by omega⟩
    have h4 := h.2.2.1
    have hw := h.gw hd hid
    obtain ⟨f1, f2⟩ := hw.sy
    obtain ⟨hi, he, er, -, g1, g2⟩ := hw
    have o8 := (hO.1.i hi).2.2.1
    rw [ov_0]
    refine ⟨m, B, ?_, Fk.rf m, hN, hR⟩
    rw [fX3_claim_2]
    simp (disch := omega) only [er, f1, cl2_so, cl1_so, ck_tr, zl_0, zl_1, zl_2, zl_3, zl_4, zl_5, zl_6, zl_7, zl_8, zl_9, zl_10, zl_11, zl_12, zl_15, zl_16, zl_20, zl_24, zl_25, zl_30, zl_31, zl_32, zl_33, zl_44, zl_48, zl_50, zl_57, zl_59, zl_60, zl_61, zl_62, zl_63, zl_64, zl_68, zl_97, zl_99, zl_100, zl_104, zl_108, zl_114, zl_120, zl_122, zl_126, zl_132, zl_180, zl_181, zl_186, zl_255, zl_900, zl_930, zl_1000, zl_1000000, nI_add, pk_mul, zs_sub, zs_lt, zs_le, zs_eq, zs_inb, zs_cl, zm_eq, zm_eq2, zm_lt, zm_le, mz_lt, mz_le, mm_eq, zs_bit, zs_or1, zs_div, zs_rem, ck_pos, if_pos, if_neg, true_or, or_true, true_and, and_true, false_or, or_false, false_and, and_false, not_true, not_false_iff, if_true, if_false, eq_self, Bool.false_eq_true, cl2_id, Bool.not_true, Bool.not_false]
  | succ j ih =>
    intro k n N B m h hN hR hk hn
    obtain ⟨n, rfl⟩ : ∃ n', n = n' + 1 := ⟨n - 1, by omega⟩
    have h4 := h.2.2.1
    have hw := h.gw hd hid
    obtain ⟨f1, f2⟩ := hw.sy
    obtain ⟨hi, he, er, -, g1, g2⟩ := hw
    obtain ⟨h6, o1, o8, oS, oO, oL⟩ := hO.1.i hi
    obtain ⟨hL, hl⟩ := zWs_ok hO hi
    have ht := h.1.tt
    obtain ⟨e1, -⟩ := g2 (p + k) (by omega)
    have hvg := zWs_vx hO hi (k := p + k) (by omega)
    have hg30 := hl (p + k) (by omega)
    have ecl : mcl r s i p k = 30 * e + (zWs r s i).getD (p + k) 0 := by unfold mcl; rw [he]
    have e3 := f2 k (by omega)
    have bl : mlt r i k ≤ 25 := oL k (by omega)
    have hRg : ∀ x, x = (zWs r s i).getD (p + k) 0 → ∃ q, 0 ≤ q ∧ q < r (64 + i) ∧ x = (zWs r s i).getD (p + q) 0 := fun x hx => ⟨k, by omega, by omega, hx⟩
    generalize (zWs r s i).getD (p + k) 0 = g at e1 hvg hg30 ecl hRg
    have hcc := cc_lt hO.1.1 hvg
    obtain ⟨n1, n2, n3, n4, n5⟩ := hN g hg30 hvg
    rw [fX3_claim_2]
    unfold fX3_claim_67
    cases hNg : N (30 * e + g) with
    | none =>
      have hBg := n5.mp hNg
      rw [hNg] at n1
      simp only [uN] at n1
      have hNB1 := hN.w9 hO.1.1 hg30 hvg bl (show d < 4 by omega)
      have p1 : Fk m (setI (setI m 99 (z_cc r g) (nI (mlt r i k))) 100 (z_cc r g) (nI d)) := ((Fk.rf m).s9 _).s0 _
      have hR1 : RlB r s e i p d 0 N0 B0 (updU N (30 * e + g) (mlt r i k)) (updU B g d) := by
        intro x hx hvx
        obtain ⟨r1, r2⟩ := hR x hx hvx
        unfold updU
        by_cases q : x = g
        · rw [if_pos q]
          subst q
          refine ⟨fun z => ?_, fun z => Or.inr ⟨rfl, hRg x rfl⟩⟩
          have := (r1 z).1
          rw [hBg] at this
          exact absurd this.symm z
        · rw [if_neg q, if_neg (show ¬ 30 * e + x = 30 * e + g by omega)]
          exact ⟨r1, r2⟩
      obtain ⟨m2, B', i1, i2, i3, i4⟩ := ih (k + 1) n _ _ _ (h.fk hO p1) hNB1 hR1 (by omega) (by omega)
      rw [← ecl, ov_n (by rw [ecl]; exact hNg)] at i3 i4
      refine ⟨m2, B', ?_, p1.tr i2, i3, i4⟩
      simp (disch := omega) only [er, f1, e1, n1, e3, cl2_so, cl1_so, ck_tr, zl_0, zl_1, zl_2, zl_3, zl_4, zl_5, zl_6, zl_7, zl_8, zl_9, zl_10, zl_11, zl_12, zl_15, zl_16, zl_20, zl_24, zl_25, zl_30, zl_31, zl_32, zl_33, zl_44, zl_48, zl_50, zl_57, zl_59, zl_60, zl_61, zl_62, zl_63, zl_64, zl_68, zl_97, zl_99, zl_100, zl_104, zl_108, zl_114, zl_120, zl_122, zl_126, zl_132, zl_180, zl_181, zl_186, zl_255, zl_900, zl_930, zl_1000, zl_1000000, nI_add, pk_mul, zs_sub, zs_lt, zs_le, zs_eq, zs_inb, zs_cl, zm_eq, zm_eq2, zm_lt, zm_le, mz_lt, mz_le, mm_eq, zs_bit, zs_or1, zs_div, zs_rem, ck_pos, if_pos, if_neg, true_or, or_true, true_and, and_true, false_or, or_false, false_and, and_false, not_true, not_false_iff, if_true, if_false, eq_self, Bool.false_eq_true, cl2_id, Bool.not_true, Bool.not_false]
      exact i1
    | some l =>
      have hl25 := n3 l hNg
      rw [hNg] at n1
      simp only [uN] at n1
      obtain ⟨m2, B', i1, i2, i3, i4⟩ := ih (k + 1) n N B m h hN hR (by omega) (by omega)
      rw [ov_s (by rw [ecl]; exact hNg)] at i3 i4
      refine ⟨m2, B', ?_, i2, i3, i4⟩
      simp (disch := omega) only [er, f1, e1, n1, e3, cl2_so, cl1_so, ck_tr, zl_0, zl_1, zl_2, zl_3, zl_4, zl_5, zl_6, zl_7, zl_8, zl_9, zl_10, zl_11, zl_12, zl_15, zl_16, zl_20, zl_24, zl_25, zl_30, zl_31, zl_32, zl_33, zl_44, zl_48, zl_50, zl_57, zl_59, zl_60, zl_61, zl_62, zl_63, zl_64, zl_68, zl_97, zl_99, zl_100, zl_104, zl_108, zl_114, zl_120, zl_122, zl_126, zl_132, zl_180, zl_181, zl_186, zl_255, zl_900, zl_930, zl_1000, zl_1000000, nI_add, pk_mul, zs_sub, zs_lt, zs_le, zs_eq, zs_inb, zs_cl, zm_eq, zm_eq2, zm_lt, zm_le, mz_lt, mz_le, mm_eq, zs_bit, zs_or1, zs_div, zs_rem, ck_pos, if_pos, if_neg, true_or, or_true, true_and, and_true, false_or, or_false, false_and, and_false, not_true, not_false_iff, if_true, if_false, eq_self, Bool.false_eq_true, cl2_id, Bool.not_true, Bool.not_false]
      exact i1
theorem re2 (hO : KO r s) {e i d p : Nat} {is : List Nat} (hd : d < is.length) (hid : is.getD d 0 = i) (hp : p + r (64 + i) ≤ (zWs r s i).length) {N0 B0 : Nat → Option Nat} (h0 : ∀ x, x < 30 → vx r x → (∀ l, N0 (30 * e + x) = some l → l ≤ 25) ∧ (∀ q, B0 x = some q → q < d) ∧ (N0 (30 * e + x) = none ↔ B0 x = none)) : ∀ j k n N B (m : Me), Wdh m t r s e is → NB m r e N B → RlB r s e i p d k N0 B0 N B → k + j = r (64 + i) → j < n → ∃ m', fX3_release_2 n (nI d) (nI p) (nI k) m = some m' ∧ Fk m m' ∧ NB m' r e N0 B0 := by
  intro j
  induction j with
  | zero =>
    intro k n N B m h hN hR hk hn
    obtain ⟨n, rfl⟩ : ∃ n', n = n' + 1 := ⟨n - 1, by omega⟩
    have h4 := h.2.2.1
    have hw := h.gw hd hid
    obtain ⟨f1, f2⟩ := hw.sy
    obtain ⟨hi, he, er, -, g1, g2⟩ := hw
    obtain ⟨h6, o1, o8, oS, oO, oL⟩ := hO.1.i hi
    refine ⟨m, ?_, Fk.rf m, fun x hx hvx => ?_⟩
    · rw [fX3_release_2]
      simp (disch := omega) only [er, f1, cl2_so, cl1_so, ck_tr, zl_0, zl_1, zl_2, zl_3, zl_4, zl_5, zl_6, zl_7, zl_8, zl_9, zl_10, zl_11, zl_12, zl_15, zl_16, zl_20, zl_24, zl_25, zl_30, zl_31, zl_32, zl_33, zl_44, zl_48, zl_50, zl_57, zl_59, zl_60, zl_61, zl_62, zl_63, zl_64, zl_68, zl_97, zl_99, zl_100, zl_104, zl_108, zl_114, zl_120, zl_122, zl_126, zl_132, zl_180, zl_181, zl_186, zl_255, zl_900, zl_930, zl_1000, zl_1000000, nI_add, pk_mul, zs_sub, zs_lt, zs_le, zs_eq, zs_inb, zs_cl, zm_eq, zm_eq2, zm_lt, zm_le, mz_lt, mz_le, mm_eq, zs_bit, zs_or1, zs_div, zs_rem, ck_pos, if_pos, if_neg, true_or, or_true, true_and, and_true, false_or, or_false, false_and, and_false, not_true, not_false_iff, if_true, if_false, eq_self, Bool.false_eq_true, cl2_id, Bool.not_true, Bool.not_false]
    · obtain ⟨n1, n2, n3, n4, n5⟩ := hN x hx hvx
      obtain ⟨b1, b2, b3⟩ := h0 x hx hvx
      obtain ⟨r1, r2⟩ := hR x hx hvx
      refine ⟨?_, ?_, b1, fun q z => by have := b2 q z; omega, b3⟩
      · rw [n1]
        cases hb : B0 x with
        | none =>
          rcases r2 hb with ⟨_, z⟩ | ⟨_, q, _, _, _⟩
          · rw [z, b3.mpr hb]
          · omega
        | some y => rw [(r1 (by rw [hb]; intro z; cases z)).2]
      · rw [n2]
        cases hb : B0 x with
        | none =>
          rcases r2 hb with ⟨z, _⟩ | ⟨_, q, _, _, _⟩
          · rw [z]
          · omega
        | some y => rw [(r1 (by rw [hb]; intro z; cases z)).1, hb]
  | succ j ih =>
    intro k n N B m h hN hR hk hn
    obtain ⟨n, rfl⟩ : ∃ n', n = n' + 1 := ⟨n - 1, by omega⟩
    have h4 := h.2.2.1
    have hw := h.gw hd hid
    obtain ⟨f1, f2⟩ := hw.sy
    obtain ⟨hi, he, er, -, g1, g2⟩ := hw
    obtain ⟨h6, o1, o8, oS, oO, oL⟩ := hO.1.i hi
    obtain ⟨hL, hl⟩ := zWs_ok hO hi
    obtain ⟨e1, -⟩ := g2 (p + k) (by omega)
    have hvg := zWs_vx hO hi (k := p + k) (by omega)
    have hg30 := hl (p + k) (by omega)
    have hkq : ∀ q x, k ≤ q → x = (zWs r s i).getD (p + q) 0 → x ≠ (zWs r s i).getD (p + k) 0 → k + 1 ≤ q := by
      intro q x a b c
      rcases Nat.eq_or_lt_of_le a with z | z
      · subst z; exact absurd b c
      · omega
    generalize (zWs r s i).getD (p + k) 0 = g at e1 hvg hg30 hkq
    have hcc := cc_lt hO.1.1 hvg
    obtain ⟨n1, n2, n3, n4, n5⟩ := hN g hg30 hvg
    obtain ⟨b1, b2, b3⟩ := h0 g hg30 hvg
    rw [fX3_release_2]
    unfold fX3_release_57
    by_cases hBd : B g = some d
    · have hB0 : B0 g = none := by
        cases hb : B0 g with
        | none => rfl
        | some y =>
          have := ((hR g hg30 hvg).1 (by rw [hb]; intro z; cases z)).1
          rw [hBd, hb] at this
          have := Option.some.inj this
          have := b2 y hb
          omega
      have p1 : Fk m (setI (setI m 99 (z_cc r g) (-nI 1)) 100 (z_cc r g) (-nI 1)) := ((Fk.rf m).s9 _).s0 _
      obtain ⟨m2, i1, i2, i3⟩ := ih (k + 1) n (fun c => if c = 30 * e + g then none else N c) (fun x => if x = g then none else B x) _ (h.fk hO p1) (fun x hx hvx => by
        by_cases q : x = g
        · subst q
          dsimp only
          rw [if_pos rfl, if_pos rfl]
          exact ⟨(sI_na (by decide)).trans (sI_eq _ _ _ _), sI_eq _ _ _ _, fun l z => (by cases z), fun q z => (by cases z), ⟨fun _ => rfl, fun _ => rfl⟩⟩
        · have qc : z_cc r x ≠ z_cc r g := fun z => q (cc_inj hO.1.1 hvx hvg z)
          dsimp only
          rw [if_neg (show ¬ 30 * e + x = 30 * e + g by omega), if_neg q, sI_na (by decide), sI_nj qc, sI_nj qc, sI_na (by decide)]
          exact hN x hx hvx) (fun x hx hvx => by
        obtain ⟨r1, r2⟩ := hR x hx hvx
        dsimp only
        by_cases q : x = g
        · rw [if_pos q]
          subst q
          rw [if_pos rfl]
          exact ⟨fun z => absurd hB0 z, fun _ => Or.inl ⟨rfl, rfl⟩⟩
        · rw [if_neg q, if_neg (show ¬ 30 * e + x = 30 * e + g by omega)]
          refine ⟨r1, fun z => ?_⟩
          rcases r2 z with w | ⟨w1, q', w2, w3, w4⟩
          · exact Or.inl w
          · exact Or.inr ⟨w1, q', hkq q' x w2 w4 q, w3, w4⟩) (by omega) (by omega)
      refine ⟨m2, ?_, p1.tr i2, i3⟩
      rw [hBd] at n2
      simp only [uN] at n2
      simp (disch := omega) only [er, f1, e1, n2, cl2_so, cl1_so, ck_tr, zl_0, zl_1, zl_2, zl_3, zl_4, zl_5, zl_6, zl_7, zl_8, zl_9, zl_10, zl_11, zl_12, zl_15, zl_16, zl_20, zl_24, zl_25, zl_30, zl_31, zl_32, zl_33, zl_44, zl_48, zl_50, zl_57, zl_59, zl_60, zl_61, zl_62, zl_63, zl_64, zl_68, zl_97, zl_99, zl_100, zl_104, zl_108, zl_114, zl_120, zl_122, zl_126, zl_132, zl_180, zl_181, zl_186, zl_255, zl_900, zl_930, zl_1000, zl_1000000, nI_add, pk_mul, zs_sub, zs_lt, zs_le, zs_eq, zs_inb, zs_cl, zm_eq, zm_eq2, zm_lt, zm_le, mz_lt, mz_le, mm_eq, zs_bit, zs_or1, zs_div, zs_rem, ck_pos, if_pos, if_neg, true_or, or_true, true_and, and_true, false_or, or_false, false_and, and_false, not_true, not_false_iff, if_true, if_false, eq_self, Bool.false_eq_true, cl2_id, Bool.not_true, Bool.not_false]
      exact i1
    · obtain ⟨m2, i1, i2, i3⟩ := ih (k + 1) n N B m h hN (fun x hx hvx => by
        obtain ⟨r1, r2⟩ := hR x hx hvx
        refine ⟨r1, fun z => ?_⟩
        rcases r2 z with w | ⟨w1, q', w2, w3, w4⟩
        · exact Or.inl w
        · refine Or.inr ⟨w1, q', hkq q' x w2 w4 (fun q => ?_), w3, w4⟩
          subst q
          exact hBd w1) (by omega) (by omega)
      refine ⟨m2, ?_, i2, i3⟩
      cases hb : B g with
      | none =>
        rw [hb] at n2
        simp only [uN] at n2
        simp (disch := omega) only [er, f1, e1, n2, cl2_so, cl1_so, ck_tr, zl_0, zl_1, zl_2, zl_3, zl_4, zl_5, zl_6, zl_7, zl_8, zl_9, zl_10, zl_11, zl_12, zl_15, zl_16, zl_20, zl_24, zl_25, zl_30, zl_31, zl_32, zl_33, zl_44, zl_48, zl_50, zl_57, zl_59, zl_60, zl_61, zl_62, zl_63, zl_64, zl_68, zl_97, zl_99, zl_100, zl_104, zl_108, zl_114, zl_120, zl_122, zl_126, zl_132, zl_180, zl_181, zl_186, zl_255, zl_900, zl_930, zl_1000, zl_1000000, nI_add, pk_mul, zs_sub, zs_lt, zs_le, zs_eq, zs_inb, zs_cl, zm_eq, zm_eq2, zm_lt, zm_le, mz_lt, mz_le, mm_eq, zs_bit, zs_or1, zs_div, zs_rem, ck_pos, if_pos, if_neg, true_or, or_true, true_and, and_true, false_or, or_false, false_and, and_false, not_true, not_false_iff, if_true, if_false, eq_self, Bool.false_eq_true, cl2_id, Bool.not_true, Bool.not_false]
        exact i1
      | some y =>
        have hy : ¬ y = d := fun z => hBd (by rw [hb, z])
        have hy4 := n4 y hb
        rw [hb] at n2
        simp only [uN] at n2
        simp (disch := omega) only [er, f1, e1, n2, hy, cl2_so, cl1_so, ck_tr, zl_0, zl_1, zl_2, zl_3, zl_4, zl_5, zl_6, zl_7, zl_8, zl_9, zl_10, zl_11, zl_12, zl_15, zl_16, zl_20, zl_24, zl_25, zl_30, zl_31, zl_32, zl_33, zl_44, zl_48, zl_50, zl_57, zl_59, zl_60, zl_61, zl_62, zl_63, zl_64, zl_68, zl_97, zl_99, zl_100, zl_104, zl_108, zl_114, zl_120, zl_122, zl_126, zl_132, zl_180, zl_181, zl_186, zl_255, zl_900, zl_930, zl_1000, zl_1000000, nI_add, pk_mul, zs_sub, zs_lt, zs_le, zs_eq, zs_inb, zs_cl, zm_eq, zm_eq2, zm_lt, zm_le, mz_lt, mz_le, mm_eq, zs_bit, zs_or1, zs_div, zs_rem, ck_pos, if_pos, if_neg, true_or, or_true, true_and, and_true, false_or, or_false, false_and, and_false, not_true, not_false_iff, if_true, if_false, eq_self, Bool.false_eq_true, cl2_id, Bool.not_true, Bool.not_false]
        exact i1
/-- a wish laid, and taken away again behind something that leaves the needs as they are -/
theorem claim_e (hO : KO r s) {e i d p : Nat} {is : List Nat} (hd : d < is.length) (hid : is.getD d 0 = i) (hp : p + r (64 + i) ≤ (zWs r s i).length) {N B : Nat → Option Nat} (h : Wdh m t r s e is) (hN : NB m r e N B) (hB : ∀ x, x < 30 → vx r x → ∀ q, B x = some q → q < d) : ∃ m1 B1, fX3_claim (nI d) (nI p) m = some m1 ∧ Fk m m1 ∧ NB m1 r e (ovl N (PLc r s i p)) B1 ∧ (∀ x, x < 30 → vx r x → ∀ q, B1 x = some q → q < d + 1) ∧ ∀ m2 : Me, Wdh m2 t r s e is → NB m2 r e (ovl N (PLc r s i p)) B1 → ∃ m3, fX3_release (nI d) (nI p) m2 = some m3 ∧ Fk m2 m3 ∧ NB m3 r e N B := by
  have h0 : ∀ x, x < 30 → vx r x → (∀ l, N (30 * e + x) = some l → l ≤ 25) ∧ (∀ q, B x = some q → q < d) ∧ (N (30 * e + x) = none ↔ B x = none) := fun x hx hvx => ⟨(hN x hx hvx).2.2.1, hB x hx hvx, (hN x hx hvx).2.2.2.2⟩
  have hRl : RlB r s e i p d 0 N B N B := fun x hx hvx => ⟨fun _ => ⟨rfl, rfl⟩, fun z => Or.inl ⟨z, (h0 x hx hvx).2.2.mpr z⟩⟩
  have o8 := (hO.1.i (h.gw hd hid).1).2.2.1
  obtain ⟨m1, B1, f1, f2, f3, f4⟩ := clm2 (t := t) hO hd hid hp (N0 := N) (B0 := B) (r (64 + i)) 0 FU N B m h hN hRl (by omega) (FU_pos (by omega))
  refine ⟨m1, B1, f1, f2, f3, fun x hx hvx q z => ?_, fun m2 h2 hN2 => ?_⟩
  · obtain ⟨r1, r2⟩ := f4 x hx hvx
    cases hb : B x with
    | none =>
      rcases r2 hb with ⟨w, _⟩ | ⟨w, _⟩
      · rw [w] at z; cases z
      · rw [w] at z; have := Option.some.inj z; omega
    | some y =>
      have := (r1 (by rw [hb]; intro z; cases z)).1
      rw [this, hb] at z
      have := Option.some.inj z
      have := hB x hx hvx y hb
      omega
  · exact re2 (t := t) hO hd hid hp h0 (r (64 + i)) 0 FU _ B1 m2 h2 hN2 f4 (by omega) (FU_pos (by omega))
/-! what a PLACE costs -/
def cvI : Option Nat → Int32
  | some x => nI x
  | none => -nI 1
def cvP : Option ((Nat → Option Nat) × Nat) → Int32
  | some q => nI q.2
  | none => -nI 1
theorem ln8 (ht : t = 3 ∨ t = 42) {i : Nat} (hi : i < 4) : ln (t + 19 + 2 * i + 1) = 8 := by
  rcases ht with rfl | rfl
  · exact (by decide : ∀ j, j < 4 → ln (3 + 19 + 2 * j + 1) = 8) i hi
  · exact (by decide : ∀ j, j < 4 → ln (42 + 19 + 2 * j + 1) = 8) i hi
theorem cf24 (hO : KO r s) {e i d p : Nat} {is : List Nat} (hd : d < is.length) (hid : is.getD d 0 = i) (hp : p + r (64 + i) ≤ (zWs r s i).length) {N B : Nat → Option Nat} (h : Wdh m t r s e is) (hN : NB m r e N B) : ∀ j k n nn Nk, k + j = r (64 + i) → nn ≤ k → j < n → (∀ q, k ≤ q → q < r (64 + i) → Nk (mcl r s i p q) = N (mcl r s i p q)) → fX3_costFrom_24 n (nI d) (nI p) (103 + 5 * d) (t + 19 + 2 * i + 1) (nI nn) (nI k) m = some (cvP (mclm r s i p k j Nk nn), m) := by
  have h4 := h.2.2.1
  have hw := h.gw hd hid
  obtain ⟨f1, f2⟩ := hw.sy
  obtain ⟨hi, he, er, -, g1, g2⟩ := hw
  obtain ⟨h6, o1, o8, oS, oO, oL⟩ := hO.1.i hi
  obtain ⟨hL, hl⟩ := zWs_ok hO hi
  have ht := h.1.tt
  have hln := ln8 ht (i := i) (by omega)
  intro j
  induction j with
  | zero =>
    intro k n nn Nk hk hnn hn hq
    obtain ⟨n, rfl⟩ : ∃ n', n = n' + 1 := ⟨n - 1, by omega⟩
    rw [fX3_costFrom_24, mclm]
    simp (disch := omega) only [er, f1, cl2_so, cl1_so, ck_tr, zl_0, zl_1, zl_2, zl_3, zl_4, zl_5, zl_6, zl_7, zl_8, zl_9, zl_10, zl_11, zl_12, zl_15, zl_16, zl_20, zl_24, zl_25, zl_30, zl_31, zl_32, zl_33, zl_44, zl_48, zl_50, zl_57, zl_59, zl_60, zl_61, zl_62, zl_63, zl_64, zl_68, zl_97, zl_99, zl_100, zl_104, zl_108, zl_114, zl_120, zl_122, zl_126, zl_132, zl_180, zl_181, zl_186, zl_255, zl_900, zl_930, zl_1000, zl_1000000, nI_add, pk_mul, zs_sub, zs_lt, zs_le, zs_eq, zs_inb, zs_cl, zm_eq, zm_eq2, zm_lt, zm_le, mz_lt, mz_le, mm_eq, zs_bit, zs_or1, zs_div, zs_rem, ck_pos, if_pos, if_neg, true_or, or_true, true_and, and_true, false_or, or_false, false_and, and_false, not_true, not_false_iff, if_true, if_false, eq_self, Bool.false_eq_true, cl2_id, Bool.not_true, Bool.not_false]
    rfl
  | succ j ih =>
    intro k n nn Nk hk hnn hn hq
    obtain ⟨n, rfl⟩ : ∃ n', n = n' + 1 := ⟨n - 1, by omega⟩
    obtain ⟨e1, e2⟩ := g2 (p + k) (by omega)
    have hvg := zWs_vx hO hi (k := p + k) (by omega)
    have hg30 := hl (p + k) (by omega)
    have ecl : mcl r s i p k = 30 * e + (zWs r s i).getD (p + k) 0 := by unfold mcl; rw [he]
    have e3 := f2 k (by omega)
    have bl : mlt r i k ≤ 25 := oL k (by omega)
    have hs := hO.2.1 _ (mcl_lt hO hi (p := p) (k := k) (by omega))
    have hqk := hq k (by omega) (by omega)
    have hin : ∀ q, k + 1 ≤ q → q < r (64 + i) → updU Nk (mcl r s i p k) (mlt r i k) (mcl r s i p q) = N (mcl r s i p q) := fun q a b => by
      unfold updU
      rw [if_neg (fun z => by have := mcl_inj hO hi (by omega) (by omega) z; omega)]
      exact hq q (by omega) b
    rw [mclm]
    rw [ecl] at hs hqk hin ⊢
    generalize (zWs r s i).getD (p + k) 0 = g at e1 e2 hvg hg30 hs hqk hin
    have hcc := cc_lt hO.1.1 hvg
    obtain ⟨n1, n2, n3, n4, n5⟩ := hN g hg30 hvg
    rw [fX3_costFrom_24, hqk]
    unfold fX3_costFrom_84 fX3_costFrom_102
    cases hNg : N (30 * e + g) with
    | none =>
      rw [hNg] at n1
      simp only [uN] at n1
      simp only
      by_cases hv : s (30 * e + g) = mlt r i k
      · rw [if_pos hv, ← ih (k + 1) n (nn + 0) _ (by omega) (by omega) (by omega) hin]
        simp (disch := omega) only [er, f1, e1, n1, e2, e3, hln, hv, Nat.add_zero, cl2_so, cl1_so, ck_tr, zl_0, zl_1, zl_2, zl_3, zl_4, zl_5, zl_6, zl_7, zl_8, zl_9, zl_10, zl_11, zl_12, zl_15, zl_16, zl_20, zl_24, zl_25, zl_30, zl_31, zl_32, zl_33, zl_44, zl_48, zl_50, zl_57, zl_59, zl_60, zl_61, zl_62, zl_63, zl_64, zl_68, zl_97, zl_99, zl_100, zl_104, zl_108, zl_114, zl_120, zl_122, zl_126, zl_132, zl_180, zl_181, zl_186, zl_255, zl_900, zl_930, zl_1000, zl_1000000, nI_add, pk_mul, zs_sub, zs_lt, zs_le, zs_eq, zs_inb, zs_cl, zm_eq, zm_eq2, zm_lt, zm_le, mz_lt, mz_le, mm_eq, zs_bit, zs_or1, zs_div, zs_rem, ck_pos, if_pos, if_neg, true_or, or_true, true_and, and_true, false_or, or_false, false_and, and_false, not_true, not_false_iff, if_true, if_false, eq_self, Bool.false_eq_true, cl2_id, Bool.not_true, Bool.not_false]
      · rw [if_neg hv, ← ih (k + 1) n (nn + 1) _ (by omega) (by omega) (by omega) hin]
        simp (disch := omega) only [er, f1, e1, n1, e2, e3, hln, hv, cl2_so, cl1_so, ck_tr, zl_0, zl_1, zl_2, zl_3, zl_4, zl_5, zl_6, zl_7, zl_8, zl_9, zl_10, zl_11, zl_12, zl_15, zl_16, zl_20, zl_24, zl_25, zl_30, zl_31, zl_32, zl_33, zl_44, zl_48, zl_50, zl_57, zl_59, zl_60, zl_61, zl_62, zl_63, zl_64, zl_68, zl_97, zl_99, zl_100, zl_104, zl_108, zl_114, zl_120, zl_122, zl_126, zl_132, zl_180, zl_181, zl_186, zl_255, zl_900, zl_930, zl_1000, zl_1000000, nI_add, pk_mul, zs_sub, zs_lt, zs_le, zs_eq, zs_inb, zs_cl, zm_eq, zm_eq2, zm_lt, zm_le, mz_lt, mz_le, mm_eq, zs_bit, zs_or1, zs_div, zs_rem, ck_pos, if_pos, if_neg, true_or, or_true, true_and, and_true, false_or, or_false, false_and, and_false, not_true, not_false_iff, if_true, if_false, eq_self, Bool.false_eq_true, cl2_id, Bool.not_true, Bool.not_false]
    | some l =>
      have hl25 := n3 l hNg
      rw [hNg] at n1
      simp only [uN] at n1
      simp only
      by_cases hv : l = mlt r i k
      · rw [if_pos hv, ← ih (k + 1) n nn _ (by omega) (by omega) (by omega) (fun q a b => hq q (by omega) b)]
        simp (disch := omega) only [er, f1, e1, n1, e3, hln, hv, cl2_so, cl1_so, ck_tr, zl_0, zl_1, zl_2, zl_3, zl_4, zl_5, zl_6, zl_7, zl_8, zl_9, zl_10, zl_11, zl_12, zl_15, zl_16, zl_20, zl_24, zl_25, zl_30, zl_31, zl_32, zl_33, zl_44, zl_48, zl_50, zl_57, zl_59, zl_60, zl_61, zl_62, zl_63, zl_64, zl_68, zl_97, zl_99, zl_100, zl_104, zl_108, zl_114, zl_120, zl_122, zl_126, zl_132, zl_180, zl_181, zl_186, zl_255, zl_900, zl_930, zl_1000, zl_1000000, nI_add, pk_mul, zs_sub, zs_lt, zs_le, zs_eq, zs_inb, zs_cl, zm_eq, zm_eq2, zm_lt, zm_le, mz_lt, mz_le, mm_eq, zs_bit, zs_or1, zs_div, zs_rem, ck_pos, if_pos, if_neg, true_or, or_true, true_and, and_true, false_or, or_false, false_and, and_false, not_true, not_false_iff, if_true, if_false, eq_self, Bool.false_eq_true, cl2_id, Bool.not_true, Bool.not_false]
      · rw [if_neg hv]
        simp (disch := omega) only [er, f1, e1, n1, e3, hln, hv, cl2_so, cl1_so, ck_tr, zl_0, zl_1, zl_2, zl_3, zl_4, zl_5, zl_6, zl_7, zl_8, zl_9, zl_10, zl_11, zl_12, zl_15, zl_16, zl_20, zl_24, zl_25, zl_30, zl_31, zl_32, zl_33, zl_44, zl_48, zl_50, zl_57, zl_59, zl_60, zl_61, zl_62, zl_63, zl_64, zl_68, zl_97, zl_99, zl_100, zl_104, zl_108, zl_114, zl_120, zl_122, zl_126, zl_132, zl_180, zl_181, zl_186, zl_255, zl_900, zl_930, zl_1000, zl_1000000, nI_add, pk_mul, zs_sub, zs_lt, zs_le, zs_eq, zs_inb, zs_cl, zm_eq, zm_eq2, zm_lt, zm_le, mz_lt, mz_le, mm_eq, zs_bit, zs_or1, zs_div, zs_rem, ck_pos, if_pos, if_neg, true_or, or_true, true_and, and_true, false_or, or_false, false_and, and_false, not_true, not_false_iff, if_true, if_false, eq_self, Bool.false_eq_true, cl2_id, Bool.not_true, Bool.not_false]
        rfl
theorem cfr_e (hO : KO r s) {e i d p : Nat} {is : List Nat} (hd : d < is.length) (hid : is.getD d 0 = i) (hp : p + r (64 + i) ≤ (zWs r s i).length) {N B : Nat → Option Nat} (h : Wdh m t r s e is) (hN : NB m r e N B) : fX3_costFrom (nI d) (nI p) m = some (cvI (cso r s N i p), m) := by
  have h4 := h.2.2.1
  obtain ⟨hi, he, er, -, g1, g2⟩ := h.gw hd hid
  have o8 := (hO.1.i hi).2.2.1
  have e1 := cf24 hO hd hid hp h hN (r (64 + i)) 0 FU 0 N (by omega) (by omega) (FU_pos (by omega)) (fun q _ _ => rfl)
  have e2 : cvI (cso r s N i p) = cvP (mclm r s i p 0 (r (64 + i)) N 0) := by
    unfold cso
    cases mclm r s i p 0 (r (64 + i)) N 0 <;> rfl
  rw [e2]
  unfold fX3_costFrom
  simp (disch := omega) only [er, cl2_so, cl1_so, ck_tr, zl_0, zl_1, zl_2, zl_3, zl_4, zl_5, zl_6, zl_7, zl_8, zl_9, zl_10, zl_11, zl_12, zl_15, zl_16, zl_20, zl_24, zl_25, zl_30, zl_31, zl_32, zl_33, zl_44, zl_48, zl_50, zl_57, zl_59, zl_60, zl_61, zl_62, zl_63, zl_64, zl_68, zl_97, zl_99, zl_100, zl_104, zl_108, zl_114, zl_120, zl_122, zl_126, zl_132, zl_180, zl_181, zl_186, zl_255, zl_900, zl_930, zl_1000, zl_1000000, nI_add, pk_mul, zs_sub, zs_lt, zs_le, zs_eq, zs_inb, zs_cl, zm_eq, zm_eq2, zm_lt, zm_le, mz_lt, mz_le, mm_eq, zs_bit, zs_or1, zs_div, zs_rem, ck_pos, if_pos, if_neg, true_or, or_true, true_and, and_true, false_or, or_false, false_and, and_false, not_true, not_false_iff, if_true, if_false, eq_self, Bool.false_eq_true, cl2_id, Bool.not_true, Bool.not_false]
  exact e1
end MA4
