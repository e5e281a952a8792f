/-! tables on the class's side, piece by piece; how lines begin; ribs -/
section TABC
variable {m m' : Me} {t : Nat} {r r' : Nat → Nat}
def cW (m : Me) (t : Nat) (r : Nat → Nat) : Prop := ∀ w, w < r 5 → SY m (t + 7 + 2 * w) (z_word r w)
def cI (m : Me) (t : Nat) (r : Nat → Nat) : Prop := ∀ i, i < r 6 → SY m (t + 19 + 2 * i) (z_wish r i) ∧ m.1 (t + 19 + 2 * i) 2 = nI (r (100 + i)) ∧ m.1 (t + 19 + 2 * i) 3 = nI (r (104 + i))
def cS (m : Me) (t : Nat) (r : Nat → Nat) : Prop := ∀ q, q < r 7 → SY m (t + 27 + 2 * q) (z_seen r q) ∧ m.1 (t + 27 + 2 * q) 2 = nI (r (108 + q)) ∧ m.1 (t + 27 + 2 * q) 3 = nI (r (114 + q)) ∧ m.1 (t + 27 + 2 * q) 4 = nI (r (120 + q))
def cB (m : Me) (t : Nat) (r : Nat → Nat) : Prop := ∀ b, b < r 8 → m.1 (t + 6) b = nI (r (180 + b))
theorem cW.cg (h : cW m t r) (hk : kW r) (h5 : r 5 ≤ 6) (em : ∀ x j, t + 7 ≤ x → x ≤ t + 18 → m'.1 x j = m.1 x j) (er : ∀ k, (k = 5 ∨ 10 ≤ k ∧ k < 64) → r' k = r k) : cW m' t r' := fun w hw => by
  rw [er 5 (by omega)] at hw
  have h8 := (hk w hw).2.1
  have e : z_word r' w = z_word r w := by
    unfold z_word
    rw [er (10 + w) (by omega)]
    exact z_w_cg (fun k hk => er _ (by omega))
  rw [e]
  exact (h w hw).cg (fun x j q => em x j (by omega) (by omega))
theorem cI.cg (h : cI m t r) (hk : kI r) (h6 : r 6 ≤ 4) (em : ∀ x j, t + 19 ≤ x → x ≤ t + 26 → m'.1 x j = m.1 x j) (er : ∀ k, (k = 6 ∨ 64 ≤ k ∧ k < 108) → r' k = r k) : cI m' t r' := fun w hw => by
  rw [er 6 (by omega)] at hw
  have h8 := (hk w hw).2.1
  have e : z_wish r' w = z_wish r w := by
    unfold z_wish
    rw [er (64 + w) (by omega)]
    exact z_w_cg (fun k hk => er _ (by omega))
  obtain ⟨a, b, c⟩ := h w hw
  rw [e, er (100 + w) (by omega), er (104 + w) (by omega)]
  exact ⟨a.cg (fun x j q => em x j (by omega) (by omega)), (em _ _ (by omega) (by omega)).trans b, (em _ _ (by omega) (by omega)).trans c⟩
theorem cS.cg (h : cS m t r) (hk : kS r) (h7 : r 7 ≤ 6) (em : ∀ x j, t + 27 ≤ x → x ≤ t + 38 → m'.1 x j = m.1 x j) (er : ∀ k, (k = 7 ∨ 108 ≤ k ∧ k < 180) → r' k = r k) : cS m' t r' := fun w hw => by
  rw [er 7 (by omega)] at hw
  have h8 := (hk w hw).2.1
  have e : z_seen r' w = z_seen r w := by
    unfold z_seen
    rw [er (126 + w) (by omega)]
    exact z_w_cg (fun k hk => er _ (by omega))
  obtain ⟨a, b, c, d⟩ := h w hw
  rw [e, er (108 + w) (by omega), er (114 + w) (by omega), er (120 + w) (by omega)]
  exact ⟨a.cg (fun x j q => em x j (by omega) (by omega)), (em _ _ (by omega) (by omega)).trans b, (em _ _ (by omega) (by omega)).trans c, (em _ _ (by omega) (by omega)).trans d⟩
theorem cB.cg (h : cB m t r) (h8 : r 8 ≤ 6) (em : ∀ j, m'.1 (t + 6) j = m.1 (t + 6) j) (er : ∀ k, (k = 8 ∨ 180 ≤ k ∧ k < 186) → r' k = r k) : cB m' t r' := fun w hw => by
  rw [er 8 (by omega)] at hw
  rw [er (180 + w) (by omega), em]
  exact h w hw
theorem CT.W (h : CT m t r) : cW m t r := h.2.2.1
theorem CT.I (h : CT m t r) : cI m t r := h.2.2.2.1
theorem CT.S (h : CT m t r) : cS m t r := h.2.2.2.2.1
theorem CT.B (h : CT m t r) : cB m t r := h.2.2.2.2.2
end TABC
section RIB
variable {N : Nat} {b : Nat → Nat} {mc mm c0 d0 m : Me} {a n κ t a' n' κ' : Nat} {r s : Nat → Nat}
theorem LC.cp {m' : Me} (h : LC m N b a n κ) (e : ∀ j, m'.1 1 j = m.1 1 j) (e1 : ∀ j, m'.1 2 j = m.1 2 j) : LC m' N b a n κ := ⟨⟨h.1.1, (e 1).trans h.1.2.1, fun k hk => ⟨(h.1.2.2 k hk).1, (e1 k).trans (h.1.2.2 k hk).2⟩⟩, ⟨(e 5).trans h.2.1.1, (e 6).trans h.2.1.2.1, (e 4).trans h.2.1.2.2⟩, h.2.2⟩
theorem LC.st (h : LC m N b a n κ) (hT : Tk N b (a + n) a' n' κ') : ∃ m', fX6_step m = some m' ∧ LC m' N b a' n' κ' ∧ Gc m m' ∧ m'.1 1 7 = m.1 1 7 := by
  obtain ⟨m', e, g1, g2, g3⟩ := step_e h.1 h.2.1.1 h.2.1.2.1 rfl h.bd.1 hT
  exact ⟨m', e, h.gc g2 g1 hT.to, g2, g3⟩
theorem beg_f (h : LM m N b a n κ) {i : Nat} (hi : i < 32) (hb : isB b a n κ i = false) (x y : Int32) : fX11_begins i x y m = some (nI 0, m) := by
  unfold fX11_begins
  simp (disch := omega) only [wd_e h hi, hb, cl2_so, cl1_so, ck_tr, zl_0, zl_1, zl_2, zl_3, zl_4, zl_5, zl_6, zl_7, zl_8, zl_9, zl_10, zl_11, zl_12, zl_15, zl_16, zl_20, zl_24, zl_25, zl_30, zl_31, zl_32, zl_33, zl_44, zl_48, zl_50, zl_57, zl_59, zl_60, zl_61, zl_62, zl_63, zl_64, zl_68, zl_97, zl_99, zl_100, zl_104, zl_108, zl_114, zl_120, zl_122, zl_126, zl_132, zl_180, zl_181, zl_186, zl_255, zl_900, zl_930, zl_1000, zl_1000000, nI_add, pk_mul, zs_sub, zs_lt, zs_le, zs_eq, zs_inb, zs_cl, zm_eq, zm_eq2, zm_lt, zm_le, mz_lt, mz_le, mm_eq, zs_bit, zs_or1, zs_div, zs_rem, ck_pos, if_pos, if_neg, true_or, or_true, true_and, and_true, false_or, or_false, false_and, and_false, not_true, not_false_iff, if_true, if_false, eq_self, Bool.false_eq_true, cl2_id, Bool.not_true, Bool.not_false]
theorem beg_1 (h : LM m N b a n κ) (hT : Tk N b (a + n) a' n' κ') {i : Nat} (hi : i < 32) (hb : isB b a n κ i = true) (h0 : m.1 142 0 = nI (r 0)) (hr : 2 ≤ r 0 ∧ r 0 ≤ 10) (y : Int32) : ∃ m', fX11_begins i (nI 1) y m = some (nI 1, m') ∧ LM m' N b a' n' κ' ∧ Gm m m' := by
  obtain ⟨m', e, g1, g2⟩ := h.nx hT
  refine ⟨m', ?_, g1, g2⟩
  unfold fX11_begins fX11_begins_23 fX11_begins_42 fX11_begins_53
  simp (disch := omega) only [wd_e h hi, hb, h0, h.2.2.2, e, cl2_so, cl1_so, ck_tr, zl_0, zl_1, zl_2, zl_3, zl_4, zl_5, zl_6, zl_7, zl_8, zl_9, zl_10, zl_11, zl_12, zl_15, zl_16, zl_20, zl_24, zl_25, zl_30, zl_31, zl_32, zl_33, zl_44, zl_48, zl_50, zl_57, zl_59, zl_60, zl_61, zl_62, zl_63, zl_64, zl_68, zl_97, zl_99, zl_100, zl_104, zl_108, zl_114, zl_120, zl_122, zl_126, zl_132, zl_180, zl_181, zl_186, zl_255, zl_900, zl_930, zl_1000, zl_1000000, nI_add, pk_mul, zs_sub, zs_lt, zs_le, zs_eq, zs_inb, zs_cl, zm_eq, zm_eq2, zm_lt, zm_le, mz_lt, mz_le, mm_eq, zs_bit, zs_or1, zs_div, zs_rem, ck_pos, if_pos, if_neg, true_or, or_true, true_and, and_true, false_or, or_false, false_and, and_false, not_true, not_false_iff, if_true, if_false, eq_self, Bool.false_eq_true, cl2_id, Bool.not_true, Bool.not_false]
theorem beg_0 (h : LM m N b a n κ) {i : Nat} (hi : i < 32) (hb : isB b a n κ i = true) (h0 : m.1 142 0 = nI (r 0)) (hr : 2 ≤ r 0 ∧ r 0 ≤ 10) (nb : Nat) : fX11_begins i (nI 0) (nI nb) m = some (nI 1, wrM m nb a) := by
  have e0 : (wrM m nb a).1 142 0 = nI (r 0) := h0
  unfold fX11_begins fX11_begins_23 fX11_begins_42 fX11_begins_53
  simp (disch := omega) only [wd_e h hi, hb, h.2.1.1, wrong_e h.2.2.2, e0, wr_13, cl2_so, cl1_so, ck_tr, zl_0, zl_1, zl_2, zl_3, zl_4, zl_5, zl_6, zl_7, zl_8, zl_9, zl_10, zl_11, zl_12, zl_15, zl_16, zl_20, zl_24, zl_25, zl_30, zl_31, zl_32, zl_33, zl_44, zl_48, zl_50, zl_57, zl_59, zl_60, zl_61, zl_62, zl_63, zl_64, zl_68, zl_97, zl_99, zl_100, zl_104, zl_108, zl_114, zl_120, zl_122, zl_126, zl_132, zl_180, zl_181, zl_186, zl_255, zl_900, zl_930, zl_1000, zl_1000000, nI_add, pk_mul, zs_sub, zs_lt, zs_le, zs_eq, zs_inb, zs_cl, zm_eq, zm_eq2, zm_lt, zm_le, mz_lt, mz_le, mm_eq, zs_bit, zs_or1, zs_div, zs_rem, ck_pos, if_pos, if_neg, true_or, or_true, true_and, and_true, false_or, or_false, false_and, and_false, not_true, not_false_iff, if_true, if_false, eq_self, Bool.false_eq_true, cl2_id, Bool.not_true, Bool.not_false]
theorem beg_l (h : LM m N b a n κ) {i : Nat} (hi : i < 32) (hb : isB b a n κ i = true) (h0 : m.1 142 0 = nI 0) (y : Int32) : fX11_begins i (nI 1) y m = some (nI 1, wrM m 6 a) := by
  unfold fX11_begins fX11_begins_23 fX11_begins_42 fX11_begins_53
  simp (disch := omega) only [wd_e h hi, hb, h0, h.2.1.1, wrong_e h.2.2.2, wr_13, cl2_so, cl1_so, ck_tr, zl_0, zl_1, zl_2, zl_3, zl_4, zl_5, zl_6, zl_7, zl_8, zl_9, zl_10, zl_11, zl_12, zl_15, zl_16, zl_20, zl_24, zl_25, zl_30, zl_31, zl_32, zl_33, zl_44, zl_48, zl_50, zl_57, zl_59, zl_60, zl_61, zl_62, zl_63, zl_64, zl_68, zl_97, zl_99, zl_100, zl_104, zl_108, zl_114, zl_120, zl_122, zl_126, zl_132, zl_180, zl_181, zl_186, zl_255, zl_900, zl_930, zl_1000, zl_1000000, nI_add, pk_mul, zs_sub, zs_lt, zs_le, zs_eq, zs_inb, zs_cl, zm_eq, zm_eq2, zm_lt, zm_le, mz_lt, mz_le, mm_eq, zs_bit, zs_or1, zs_div, zs_rem, ck_pos, if_pos, if_neg, true_or, or_true, true_and, and_true, false_or, or_false, false_and, and_false, not_true, not_false_iff, if_true, if_false, eq_self, Bool.false_eq_true, cl2_id, Bool.not_true, Bool.not_false]
theorem rib_d (h : m.1 138 13 = nI 1) : fX11_ribLine m = some m := by
  unfold fX11_ribLine
  rw [show FU = 1999 + 1 from rfl, fX11_ribLine_9]
  unfold fX11_ribLine_112
  simp (disch := omega) only [h, cl2_so, cl1_so, ck_tr, zl_0, zl_1, zl_2, zl_3, zl_4, zl_5, zl_6, zl_7, zl_8, zl_9, zl_10, zl_11, zl_12, zl_15, zl_16, zl_20, zl_24, zl_25, zl_30, zl_31, zl_32, zl_33, zl_44, zl_48, zl_50, zl_57, zl_59, zl_60, zl_61, zl_62, zl_63, zl_64, zl_68, zl_97, zl_99, zl_100, zl_104, zl_108, zl_114, zl_120, zl_122, zl_126, zl_132, zl_180, zl_181, zl_186, zl_255, zl_900, zl_930, zl_1000, zl_1000000, nI_add, pk_mul, zs_sub, zs_lt, zs_le, zs_eq, zs_inb, zs_cl, zm_eq, zm_eq2, zm_lt, zm_le, mz_lt, mz_le, mm_eq, zs_bit, zs_or1, zs_div, zs_rem, ck_pos, if_pos, if_neg, true_or, or_true, true_and, and_true, false_or, or_false, false_and, and_false, not_true, not_false_iff, if_true, if_false, eq_self, Bool.false_eq_true, cl2_id, Bool.not_true, Bool.not_false]
theorem word_d (h : m.1 138 13 = nI 1) : fX11_wordLine m = some m := by
  unfold fX11_wordLine
  simp (disch := omega) only [h, cl2_so, cl1_so, ck_tr, zl_0, zl_1, zl_2, zl_3, zl_4, zl_5, zl_6, zl_7, zl_8, zl_9, zl_10, zl_11, zl_12, zl_15, zl_16, zl_20, zl_24, zl_25, zl_30, zl_31, zl_32, zl_33, zl_44, zl_48, zl_50, zl_57, zl_59, zl_60, zl_61, zl_62, zl_63, zl_64, zl_68, zl_97, zl_99, zl_100, zl_104, zl_108, zl_114, zl_120, zl_122, zl_126, zl_132, zl_180, zl_181, zl_186, zl_255, zl_900, zl_930, zl_1000, zl_1000000, nI_add, pk_mul, zs_sub, zs_lt, zs_le, zs_eq, zs_inb, zs_cl, zm_eq, zm_eq2, zm_lt, zm_le, mz_lt, mz_le, mm_eq, zs_bit, zs_or1, zs_div, zs_rem, ck_pos, if_pos, if_neg, true_or, or_true, true_and, and_true, false_or, or_false, false_and, and_false, not_true, not_false_iff, if_true, if_false, eq_self, Bool.false_eq_true, cl2_id, Bool.not_true, Bool.not_false]
theorem wish_d (h : m.1 138 13 = nI 1) : fX11_wishLine m = some m := by
  unfold fX11_wishLine
  simp (disch := omega) only [h, cl2_so, cl1_so, ck_tr, zl_0, zl_1, zl_2, zl_3, zl_4, zl_5, zl_6, zl_7, zl_8, zl_9, zl_10, zl_11, zl_12, zl_15, zl_16, zl_20, zl_24, zl_25, zl_30, zl_31, zl_32, zl_33, zl_44, zl_48, zl_50, zl_57, zl_59, zl_60, zl_61, zl_62, zl_63, zl_64, zl_68, zl_97, zl_99, zl_100, zl_104, zl_108, zl_114, zl_120, zl_122, zl_126, zl_132, zl_180, zl_181, zl_186, zl_255, zl_900, zl_930, zl_1000, zl_1000000, nI_add, pk_mul, zs_sub, zs_lt, zs_le, zs_eq, zs_inb, zs_cl, zm_eq, zm_eq2, zm_lt, zm_le, mz_lt, mz_le, mm_eq, zs_bit, zs_or1, zs_div, zs_rem, ck_pos, if_pos, if_neg, true_or, or_true, true_and, and_true, false_or, or_false, false_and, and_false, not_true, not_false_iff, if_true, if_false, eq_self, Bool.false_eq_true, cl2_id, Bool.not_true, Bool.not_false]
theorem seen_d (h : m.1 138 13 = nI 1) : fX11_seenLine m = some m := by
  unfold fX11_seenLine
  simp (disch := omega) only [h, cl2_so, cl1_so, ck_tr, zl_0, zl_1, zl_2, zl_3, zl_4, zl_5, zl_6, zl_7, zl_8, zl_9, zl_10, zl_11, zl_12, zl_15, zl_16, zl_20, zl_24, zl_25, zl_30, zl_31, zl_32, zl_33, zl_44, zl_48, zl_50, zl_57, zl_59, zl_60, zl_61, zl_62, zl_63, zl_64, zl_68, zl_97, zl_99, zl_100, zl_104, zl_108, zl_114, zl_120, zl_122, zl_126, zl_132, zl_180, zl_181, zl_186, zl_255, zl_900, zl_930, zl_1000, zl_1000000, nI_add, pk_mul, zs_sub, zs_lt, zs_le, zs_eq, zs_inb, zs_cl, zm_eq, zm_eq2, zm_lt, zm_le, mz_lt, mz_le, mm_eq, zs_bit, zs_or1, zs_div, zs_rem, ck_pos, if_pos, if_neg, true_or, or_true, true_and, and_true, false_or, or_false, false_and, and_false, not_true, not_false_iff, if_true, if_false, eq_self, Bool.false_eq_true, cl2_id, Bool.not_true, Bool.not_false]
theorem beat_d (h : m.1 138 13 = nI 1) : fX11_beatLine m = some m := by
  unfold fX11_beatLine
  simp (disch := omega) only [h, cl2_so, cl1_so, ck_tr, zl_0, zl_1, zl_2, zl_3, zl_4, zl_5, zl_6, zl_7, zl_8, zl_9, zl_10, zl_11, zl_12, zl_15, zl_16, zl_20, zl_24, zl_25, zl_30, zl_31, zl_32, zl_33, zl_44, zl_48, zl_50, zl_57, zl_59, zl_60, zl_61, zl_62, zl_63, zl_64, zl_68, zl_97, zl_99, zl_100, zl_104, zl_108, zl_114, zl_120, zl_122, zl_126, zl_132, zl_180, zl_181, zl_186, zl_255, zl_900, zl_930, zl_1000, zl_1000000, nI_add, pk_mul, zs_sub, zs_lt, zs_le, zs_eq, zs_inb, zs_cl, zm_eq, zm_eq2, zm_lt, zm_le, mz_lt, mz_le, mm_eq, zs_bit, zs_or1, zs_div, zs_rem, ck_pos, if_pos, if_neg, true_or, or_true, true_and, and_true, false_or, or_false, false_and, and_false, not_true, not_false_iff, if_true, if_false, eq_self, Bool.false_eq_true, cl2_id, Bool.not_true, Bool.not_false]
/-- cells from p on, q of them -/
def spn (s b : Nat → Nat) (a p q : Nat) : Nat → Nat := fun k => if p ≤ k ∧ k < p + q then b (a + (k - p)) - 97 else s k
theorem spn_0 (s b : Nat → Nat) (a p : Nat) : spn s b a p 0 = s := by
  funext k
  unfold spn
  rw [if_neg (by omega)]
theorem spn_at {s b : Nat → Nat} {a p q c : Nat} (h : c < q) : spn s b a p q (p + c) = b (a + c) - 97 := by
  unfold spn
  rw [if_pos (by omega), show p + c - p = c by omega]
theorem spn_s {s b : Nat → Nat} {a p q k : Nat} (h : k ≠ p + q) : spn s b a p (q + 1) k = spn s b a p q k := by
  unfold spn
  by_cases z : p ≤ k ∧ k < p + q
  · rw [if_pos z, if_pos (by omega)]
  · rw [if_neg z, if_neg (by omega)]
theorem spn_out {s b : Nat → Nat} {a p q k : Nat} (h : ¬ (p ≤ k ∧ k < p + q)) : spn s b a p q k = s k := if_neg h
theorem tc36 (ht : t = 3 ∨ t = 42) (hf : z_fan r) (hT : Tk N b (a + n) a' n' κ') (hk : κ = 1) (hn : n = r 1) {rib side : Nat} (hr : rib < r 0) (hs : side ≤ 1) : ∀ j q f (m : Me), LC m N b a n κ → m.1 t 1 = nI (r 1) → m.1 t 4 = nI rib → rr m 1 2 = t → CPs m (t + 1) r (spn s b a (30 * side + 3 * rib) q) → q + j = n → j < f → ∃ m', fX6_takeCells_36 f (nI side) (nI q) m = some (nI 1, m') ∧ LC m' N b a' n' κ' ∧ CPs m' (t + 1) r (spn s b a (30 * side + 3 * rib) n) ∧ (∀ x j, ¬ (x = 1 ∧ 4 ≤ j ∧ j ≤ 7) → x ≠ t + 2 → m'.1 x j = m.1 x j) ∧ m'.2 = m.2 := by
  obtain ⟨f0, f1, f2, f3, f4⟩ := id hf
  intro j
  induction j with
  | zero =>
    intro q f m h h1 h4 hrr hP hq hfu
    obtain ⟨f, rfl⟩ : ∃ n', f = n' + 1 := ⟨f - 1, by omega⟩
    obtain rfl : q = n := by omega
    obtain ⟨m', e, g1, g2, g3⟩ := h.st hT
    have hb := h.bd
    refine ⟨m', ?_, g1, hP.cg (fun x j z => g2.1 x j (by omega)), fun x j z _ => g2.1 x j z, g2.2⟩
    rw [fX6_takeCells_36]
    simp (disch := omega) only [h.2.1.2.1, e, cl2_so, cl1_so, ck_tr, zl_0, zl_1, zl_2, zl_3, zl_4, zl_5, zl_6, zl_7, zl_8, zl_9, zl_10, zl_11, zl_12, zl_15, zl_16, zl_20, zl_24, zl_25, zl_30, zl_31, zl_32, zl_33, zl_44, zl_48, zl_50, zl_57, zl_59, zl_60, zl_61, zl_62, zl_63, zl_64, zl_68, zl_97, zl_99, zl_100, zl_104, zl_108, zl_114, zl_120, zl_122, zl_126, zl_132, zl_180, zl_181, zl_186, zl_255, zl_900, zl_930, zl_1000, zl_1000000, nI_add, pk_mul, zs_sub, zs_lt, zs_le, zs_eq, zs_inb, zs_cl, zm_eq, zm_eq2, zm_lt, zm_le, mz_lt, mz_le, mm_eq, zs_bit, zs_or1, zs_div, zs_rem, ck_pos, if_pos, if_neg, true_or, or_true, true_and, and_true, false_or, or_false, false_and, and_false, not_true, not_false_iff, if_true, if_false, eq_self, Bool.false_eq_true, cl2_id, Bool.not_true, Bool.not_false]
  | succ j ih =>
    intro q f m h h1 h4 hrr hP hq hfu
    obtain ⟨f, rfl⟩ : ∃ n', f = n' + 1 := ⟨f - 1, by omega⟩
    obtain ⟨hX, ⟨t5, t6, t4⟩, o1, o2, o3, o4, o5, o6⟩ := id h
    have hN := hX.1
    obtain ⟨d1, d2⟩ := (o5 hk).2 q (by omega)
    have hx := (hX.2.2 (a + q) (by omega)).2
    rw [by8_sm (by omega)] at hx
    have hix := ix_lt hf hr (c := q) (by omega)
    have hP' := hP.set (s := spn s b a (30 * side + 3 * rib) (q + 1)) hf hs hr (c := q) (by omega) (fun k _ hn => spn_s (by omega))
    rw [show 30 * side + (3 * rib + q) = 30 * side + 3 * rib + q by omega, spn_at (by omega)] at hP'
    have h' : LC (setI m (t + 1 + 1) (side * 30 + (r 1 * rib + q)) (nI (b (a + q) - 97))) N b a n κ := h.cp (fun j => sI_na (by omega)) (fun j => sI_na (by omega))
    obtain ⟨m', i1, i2, i3, i4, i5⟩ := ih (q + 1) f _ h' ((sI_na (by omega)).trans h1) ((sI_na (by omega)).trans h4) hrr hP' (by omega) (by omega)
    refine ⟨m', ?_, i2, i3, fun x j z1 z2 => (i4 x j z1 z2).trans (sI_na z2), i5⟩
    rw [fX6_takeCells_36]
    unfold fX6_letterAt fX6_takeCells_102
    simp (disch := omega) only [t5, t6, hrr, h1, h4, ci_e, hx, cl2_so, cl1_so, ck_tr, zl_0, zl_1, zl_2, zl_3, zl_4, zl_5, zl_6, zl_7, zl_8, zl_9, zl_10, zl_11, zl_12, zl_15, zl_16, zl_20, zl_24, zl_25, zl_30, zl_31, zl_32, zl_33, zl_44, zl_48, zl_50, zl_57, zl_59, zl_60, zl_61, zl_62, zl_63, zl_64, zl_68, zl_97, zl_99, zl_100, zl_104, zl_108, zl_114, zl_120, zl_122, zl_126, zl_132, zl_180, zl_181, zl_186, zl_255, zl_900, zl_930, zl_1000, zl_1000000, nI_add, pk_mul, zs_sub, zs_lt, zs_le, zs_eq, zs_inb, zs_cl, zm_eq, zm_eq2, zm_lt, zm_le, mz_lt, mz_le, mm_eq, zs_bit, zs_or1, zs_div, zs_rem, ck_pos, if_pos, if_neg, true_or, or_true, true_and, and_true, false_or, or_false, false_and, and_false, not_true, not_false_iff, if_true, if_false, eq_self, Bool.false_eq_true, cl2_id, Bool.not_true, Bool.not_false]
    exact i1
theorem tc_n (h : LC m N b a n κ) (hk : κ ≠ 1) (x : Int32) : flC (fX6_takeCells x m) m 1 a := by
  obtain ⟨hX, ⟨t5, t6, t4⟩, o1, o2, o3, o4, o5, o6⟩ := id h
  have e : fX6_takeCells x m = some (nI 0, flM m 1 a) := by
    unfold fX6_takeCells
    simp (disch := omega) only [t4, hk, fail_e t5, cl2_so, cl1_so, ck_tr, zl_0, zl_1, zl_2, zl_3, zl_4, zl_5, zl_6, zl_7, zl_8, zl_9, zl_10, zl_11, zl_12, zl_15, zl_16, zl_20, zl_24, zl_25, zl_30, zl_31, zl_32, zl_33, zl_44, zl_48, zl_50, zl_57, zl_59, zl_60, zl_61, zl_62, zl_63, zl_64, zl_68, zl_97, zl_99, zl_100, zl_104, zl_108, zl_114, zl_120, zl_122, zl_126, zl_132, zl_180, zl_181, zl_186, zl_255, zl_900, zl_930, zl_1000, zl_1000000, nI_add, pk_mul, zs_sub, zs_lt, zs_le, zs_eq, zs_inb, zs_cl, zm_eq, zm_eq2, zm_lt, zm_le, mz_lt, mz_le, mm_eq, zs_bit, zs_or1, zs_div, zs_rem, ck_pos, if_pos, if_neg, true_or, or_true, true_and, and_true, false_or, or_false, false_and, and_false, not_true, not_false_iff, if_true, if_false, eq_self, Bool.false_eq_true, cl2_id, Bool.not_true, Bool.not_false]
  rw [e]
  exact flC_fl
theorem tc_4 (h : LC m N b a n κ) (hk : κ = 1) (hrr : rr m 1 2 = t) (h1 : m.1 t 1 = nI (r 1)) (hw : r 1 ≤ 3) (hn : n ≠ r 1) (x : Int32) : flC (fX6_takeCells x m) m 4 a := by
  obtain ⟨hX, ⟨t5, t6, t4⟩, o1, o2, o3, o4, o5, o6⟩ := id h
  have hN := hX.1
  have e : fX6_takeCells x m = some (nI 0, flM m 4 a) := by
    unfold fX6_takeCells
    simp (disch := omega) only [t4, hk, t6, hrr, h1, hn, fail_e t5, cl2_so, cl1_so, ck_tr, zl_0, zl_1, zl_2, zl_3, zl_4, zl_5, zl_6, zl_7, zl_8, zl_9, zl_10, zl_11, zl_12, zl_15, zl_16, zl_20, zl_24, zl_25, zl_30, zl_31, zl_32, zl_33, zl_44, zl_48, zl_50, zl_57, zl_59, zl_60, zl_61, zl_62, zl_63, zl_64, zl_68, zl_97, zl_99, zl_100, zl_104, zl_108, zl_114, zl_120, zl_122, zl_126, zl_132, zl_180, zl_181, zl_186, zl_255, zl_900, zl_930, zl_1000, zl_1000000, nI_add, pk_mul, zs_sub, zs_lt, zs_le, zs_eq, zs_inb, zs_cl, zm_eq, zm_eq2, zm_lt, zm_le, mz_lt, mz_le, mm_eq, zs_bit, zs_or1, zs_div, zs_rem, ck_pos, if_pos, if_neg, true_or, or_true, true_and, and_true, false_or, or_false, false_and, and_false, not_true, not_false_iff, if_true, if_false, eq_self, Bool.false_eq_true, cl2_id, Bool.not_true, Bool.not_false]
  rw [e]
  exact flC_fl
theorem rl64 {k9 : Int32 → Int32 → Me → Option Me} (hf : z_fan r) (hT : Tk N b (a + n) a' n' κ') (hk : κ = 1) (hn : n = r 1) {rib side : Nat} (hr : rib < r 0) (hs : side ≤ 1) : ∀ j q f (m : Me), LM m N b a n κ → (∀ k, k < 62 → m.1 144 k = nI (spn s b a (30 * side + 3 * rib) q k)) → q + j = n → j < f → ∃ m', fX11_ribLine_64 f k9 (nI rib) (nI side) (nI q) m = k9 (nI rib) (nI (side + 1)) m' ∧ LM m' N b a' n' κ' ∧ (∀ k, k < 62 → m'.1 144 k = nI (spn s b a (30 * side + 3 * rib) n k)) ∧ (∀ x j, x ≠ 144 → x ≠ 140 → ¬ (x = 138 ∧ 4 ≤ j ∧ j ≤ 8) → m'.1 x j = m.1 x j) ∧ m'.2 = m.2 := by
  obtain ⟨f0, f1, f2, f3, f4⟩ := id hf
  intro j
  induction j with
  | zero =>
    intro q f m h hl hq hfu
    obtain ⟨f, rfl⟩ : ∃ n', f = n' + 1 := ⟨f - 1, by omega⟩
    obtain rfl : q = n := by omega
    obtain ⟨m', e, g1, g2⟩ := h.nx hT
    have h8 := (h.2.1.2.2.2.1 hk).1
    refine ⟨m', ?_, g1, fun k hk => (g2.1 144 _ (by omega) (by omega)).trans (hl k hk), fun x j _ z2 z3 => g2.1 x j z2 z3, g2.2⟩
    rw [fX11_ribLine_64]
    simp (disch := omega) only [h8, e, cl2_so, cl1_so, ck_tr, zl_0, zl_1, zl_2, zl_3, zl_4, zl_5, zl_6, zl_7, zl_8, zl_9, zl_10, zl_11, zl_12, zl_15, zl_16, zl_20, zl_24, zl_25, zl_30, zl_31, zl_32, zl_33, zl_44, zl_48, zl_50, zl_57, zl_59, zl_60, zl_61, zl_62, zl_63, zl_64, zl_68, zl_97, zl_99, zl_100, zl_104, zl_108, zl_114, zl_120, zl_122, zl_126, zl_132, zl_180, zl_181, zl_186, zl_255, zl_900, zl_930, zl_1000, zl_1000000, nI_add, pk_mul, zs_sub, zs_lt, zs_le, zs_eq, zs_inb, zs_cl, zm_eq, zm_eq2, zm_lt, zm_le, mz_lt, mz_le, mm_eq, zs_bit, zs_or1, zs_div, zs_rem, ck_pos, if_pos, if_neg, true_or, or_true, true_and, and_true, false_or, or_false, false_and, and_false, not_true, not_false_iff, if_true, if_false, eq_self, Bool.false_eq_true, cl2_id, Bool.not_true, Bool.not_false]
  | succ j ih =>
    intro q f m h hl hq hfu
    obtain ⟨f, rfl⟩ : ∃ n', f = n' + 1 := ⟨f - 1, by omega⟩
    obtain ⟨hX, ⟨t4, t5, t6, t8, t7⟩, ⟨o1, o2, o3, o4, o5, o6⟩, h13⟩ := id h
    obtain ⟨h8, hlt⟩ := t8 hk
    have hN := hX.1
    obtain ⟨d1, d2⟩ := (o5 hk).2 q (by omega)
    have hx := hlt q (by omega)
    have h' : LM (setI m 144 (30 * side + 3 * rib + q) (nI (b (a + q) - 97))) N b a n κ := h.tb (fun x j z => sI_na (by omega))
    obtain ⟨m', i1, i2, i3, i4, i5⟩ := ih (q + 1) f _ h' (fun k hk => by
      by_cases z : k = 30 * side + 3 * rib + q
      · subst z
        rw [sI_eq, spn_at (by omega)]
      · rw [sI_nj z, spn_s z]
        exact hl k hk) (by omega) (by omega)
    refine ⟨m', ?_, i2, i3, fun x j z1 z2 z3 => (i4 x j z1 z2 z3).trans (sI_na z1), i5⟩
    rw [fX11_ribLine_64]
    simp (disch := omega) only [h8, hx, cl2_so, cl1_so, ck_tr, zl_0, zl_1, zl_2, zl_3, zl_4, zl_5, zl_6, zl_7, zl_8, zl_9, zl_10, zl_11, zl_12, zl_15, zl_16, zl_20, zl_24, zl_25, zl_30, zl_31, zl_32, zl_33, zl_44, zl_48, zl_50, zl_57, zl_59, zl_60, zl_61, zl_62, zl_63, zl_64, zl_68, zl_97, zl_99, zl_100, zl_104, zl_108, zl_114, zl_120, zl_122, zl_126, zl_132, zl_180, zl_181, zl_186, zl_255, zl_900, zl_930, zl_1000, zl_1000000, nI_add, pk_mul, zs_sub, zs_lt, zs_le, zs_eq, zs_inb, zs_cl, zm_eq, zm_eq2, zm_lt, zm_le, mz_lt, mz_le, mm_eq, zs_bit, zs_or1, zs_div, zs_rem, ck_pos, if_pos, if_neg, true_or, or_true, true_and, and_true, false_or, or_false, false_and, and_false, not_true, not_false_iff, if_true, if_false, eq_self, Bool.false_eq_true, cl2_id, Bool.not_true, Bool.not_false]
    exact i1
theorem rl9_n (h : LM m N b a n κ) (hk : κ ≠ 1) {f side : Nat} (hs : side ≤ 1) (x : Int32) : fX11_ribLine_9 (f + 1) x (nI side) m = some (wrM m 1 a) := by
  rw [fX11_ribLine_9]
  unfold fX11_ribLine_54
  simp (disch := omega) only [h.2.2.2, mw_0 h hk, wr_13, cl2_so, cl1_so, ck_tr, zl_0, zl_1, zl_2, zl_3, zl_4, zl_5, zl_6, zl_7, zl_8, zl_9, zl_10, zl_11, zl_12, zl_15, zl_16, zl_20, zl_24, zl_25, zl_30, zl_31, zl_32, zl_33, zl_44, zl_48, zl_50, zl_57, zl_59, zl_60, zl_61, zl_62, zl_63, zl_64, zl_68, zl_97, zl_99, zl_100, zl_104, zl_108, zl_114, zl_120, zl_122, zl_126, zl_132, zl_180, zl_181, zl_186, zl_255, zl_900, zl_930, zl_1000, zl_1000000, nI_add, pk_mul, zs_sub, zs_lt, zs_le, zs_eq, zs_inb, zs_cl, zm_eq, zm_eq2, zm_lt, zm_le, mz_lt, mz_le, mm_eq, zs_bit, zs_or1, zs_div, zs_rem, ck_pos, if_pos, if_neg, true_or, or_true, true_and, and_true, false_or, or_false, false_and, and_false, not_true, not_false_iff, if_true, if_false, eq_self, Bool.false_eq_true, cl2_id, Bool.not_true, Bool.not_false]
theorem rl9_4 (h : LM m N b a n κ) (hk : κ = 1) (h1 : m.1 142 1 = nI (r 1)) (hw : r 1 ≤ 3) (hn : n ≠ r 1) {f side : Nat} (hs : side ≤ 1) (x : Int32) : fX11_ribLine_9 (f + 1) x (nI side) m = some (wrM m 4 a) := by
  have h8 := (h.2.1.2.2.2.1 hk).1
  have hb := h.bd
  rw [fX11_ribLine_9]
  unfold fX11_ribLine_54
  simp (disch := omega) only [h.2.2.2, mw_1 h hk, h8, h1, hn, h.2.1.1, wrong_e h.2.2.2, wr_13, cl2_so, cl1_so, ck_tr, zl_0, zl_1, zl_2, zl_3, zl_4, zl_5, zl_6, zl_7, zl_8, zl_9, zl_10, zl_11, zl_12, zl_15, zl_16, zl_20, zl_24, zl_25, zl_30, zl_31, zl_32, zl_33, zl_44, zl_48, zl_50, zl_57, zl_59, zl_60, zl_61, zl_62, zl_63, zl_64, zl_68, zl_97, zl_99, zl_100, zl_104, zl_108, zl_114, zl_120, zl_122, zl_126, zl_132, zl_180, zl_181, zl_186, zl_255, zl_900, zl_930, zl_1000, zl_1000000, nI_add, pk_mul, zs_sub, zs_lt, zs_le, zs_eq, zs_inb, zs_cl, zm_eq, zm_eq2, zm_lt, zm_le, mz_lt, mz_le, mm_eq, zs_bit, zs_or1, zs_div, zs_rem, ck_pos, if_pos, if_neg, true_or, or_true, true_and, and_true, false_or, or_false, false_and, and_false, not_true, not_false_iff, if_true, if_false, eq_self, Bool.false_eq_true, cl2_id, Bool.not_true, Bool.not_false]
theorem rl9_s (h : LM m N b a n κ) (hf : z_fan r) (hT : Tk N b (a + n) a' n' κ') (hk : κ = 1) (h1 : m.1 142 1 = nI (r 1)) (hn : n = r 1) {f rib side : Nat} (hr : rib < r 0) (hs : side ≤ 1) (hl : ∀ k, k < 62 → m.1 144 k = nI (s k)) : ∃ m', fX11_ribLine_9 (f + 1) (nI rib) (nI side) m = fX11_ribLine_9 f (nI rib) (nI (side + 1)) m' ∧ LM m' N b a' n' κ' ∧ (∀ k, k < 62 → m'.1 144 k = nI (spn s b a (30 * side + 3 * rib) n k)) ∧ (∀ x j, x ≠ 144 → x ≠ 140 → ¬ (x = 138 ∧ 4 ≤ j ∧ j ≤ 8) → m'.1 x j = m.1 x j) ∧ m'.2 = m.2 := by
  have h8 := (h.2.1.2.2.2.1 hk).1
  have hf3 := hf.2.2.2.1
  obtain ⟨m', i1, i2⟩ := rl64 (k9 := fX11_ribLine_9 f) (s := s) hf hT hk hn hr hs n 0 FU m h (fun k hk => by rw [spn_0]; exact hl k hk) (by omega) (FU_pos (by omega))
  refine ⟨m', ?_, i2⟩
  rw [fX11_ribLine_9]
  unfold fX11_ribLine_54
  simp (disch := omega) only [h.2.2.2, mw_1 h hk, h8, h1, hn, cl2_so, cl1_so, ck_tr, zl_0, zl_1, zl_2, zl_3, zl_4, zl_5, zl_6, zl_7, zl_8, zl_9, zl_10, zl_11, zl_12, zl_15, zl_16, zl_20, zl_24, zl_25, zl_30, zl_31, zl_32, zl_33, zl_44, zl_48, zl_50, zl_57, zl_59, zl_60, zl_61, zl_62, zl_63, zl_64, zl_68, zl_97, zl_99, zl_100, zl_104, zl_108, zl_114, zl_120, zl_122, zl_126, zl_132, zl_180, zl_181, zl_186, zl_255, zl_900, zl_930, zl_1000, zl_1000000, nI_add, pk_mul, zs_sub, zs_lt, zs_le, zs_eq, zs_inb, zs_cl, zm_eq, zm_eq2, zm_lt, zm_le, mz_lt, mz_le, mm_eq, zs_bit, zs_or1, zs_div, zs_rem, ck_pos, if_pos, if_neg, true_or, or_true, true_and, and_true, false_or, or_false, false_and, and_false, not_true, not_false_iff, if_true, if_false, eq_self, Bool.false_eq_true, cl2_id, Bool.not_true, Bool.not_false]
  exact i1
theorem OKs.spn (h : OKs r s) (hf : z_fan r) (hO : TO N b a n κ) (hk : κ = 1) (hn : n = r 1) {rib side : Nat} (hr : rib < r 0) (hs : side ≤ 1) : OKs r (spn s b a (30 * side + 3 * rib) n) := by
  obtain ⟨f0, f1, f2, f3, f4⟩ := id hf
  obtain ⟨o1, o2, o3, o4, o5, o6⟩ := hO
  refine ⟨fun k hk' => ?_, ?_, ?_, fun side' k q1 q2 q3 => ?_⟩
  · by_cases z : 30 * side + 3 * rib ≤ k ∧ k < 30 * side + 3 * rib + n
    · have := (o5 hk).2 (k - (30 * side + 3 * rib)) (by omega)
      unfold Jvm.Pilot.CFanPartsLaw_law_r1864_615eae.spn
      rw [if_pos z]
      omega
    · rw [spn_out z]
      exact h.1 k hk'
  · rw [spn_out (by omega)]
    exact h.2.1
  · rw [spn_out (by omega)]
    exact h.2.2.1
  · rw [spn_out]
    · exact h.2.2.2 side' k q1 q2 q3
    · intro z
      apply q3
      have e1 : side' = side := by omega
      subst e1
      omega
theorem line_rib (ht : t = 3 ∨ t = 42) (hr0 : rr c0 1 2 = t) (hC : RC c0 mc t N b a n κ true r s) (hM : RM d0 mm N b a n κ r s) (hR : RP true r s) (hb : isB b a n κ 23 = true) : LO t N b a c0 d0 (fX6_readRib mc) (cl2 (fX11_begins 23 (nI (if r 4 < r 0 then 1 else 0)) (5 : Int32) mm) fun _ m14 => fX11_ribLine m14) := by
  obtain ⟨⟨fr1, fr2⟩, hL, h3, h8, hCT, h4, hP⟩ := hC
  obtain ⟨hG, hLM, h9, hMR, hMS⟩ := hM
  obtain ⟨hK, hKs, hK4, hK9, hK98⟩ := hR.2 rfl
  have hf := hK.1
  obtain ⟨f0, f1, f2, f3, f4⟩ := id hf
  have rrm : ∀ m : Me, m.2 = mc.2 → rr m 1 2 = t := fun m e => by
    rw [← hr0]
    unfold Jvm.Pilot.CFanPartsLaw_law_r1864_615eae.rr
    rw [e, fr2]
  have hk1 := (isB_1 hb).1
  have hn1 : 1 ≤ n := hL.2.2.2.2.2.1 (by omega)
  have c0' := hCT.1.1
  have c1' := hCT.1.2.1
  by_cases h40 : r 4 < r 0
  · rw [if_pos h40]
    obtain ⟨a1, n1, κ1, hT1⟩ := Tk_ex N b hL.bd.1
    obtain ⟨c1, e1, hL1, y2, -⟩ := hL.st hT1
    obtain ⟨d1, e2, hM1, z2⟩ := beg_1 (r := r) hLM hT1 (by decide) hb (hMR 0 (by omega)) ⟨f0, f1⟩ (5 : Int32)
    have r1 := rrm c1 y2.2
    have c11 : c1.1 t 1 = nI (r 1) := (y2.1 t 1 (by omega)).trans c1'
    have c14 : c1.1 t 4 = nI (r 4) := (y2.1 t 4 (by omega)).trans h4
    have eF : fX6_readRib mc = cl2 (fX6_takeCells (0 : Int32) c1) fun r9 m10 => if r9 = (0 : Int32) then fX6_readRib_43 m10 else cl2 (fX6_takeCells (1 : Int32) m10) fun r14 m15 => if r14 = (0 : Int32) then fX6_readRib_43 m15 else cl2 (fX6_isName 12 m15) fun r19 m20 => if r19 = (0 : Int32) then fX6_readRib_82 m20 else cl1 (fX6_step (setI m20 ((rr m20 1 2) + 1) 1 ((m20.1 ((rr m20 1 2) + 1) 1) ||| ((1 : Int32) <<< ((m20.1 (rr m20 1 2) 4) &&& (31 : Int32)))))) fun m26 => fX6_readRib_82 m26 := by
      unfold fX6_readRib
      rw [rrm mc rfl, h4, c0', if_pos ((zs_lt (by omega) (by omega)).mpr h40), e1, cl1_so]
    have eG : (cl2 (fX11_begins 23 (nI 1) (5 : Int32) mm) fun _ m14 => fX11_ribLine m14) = fX11_ribLine_9 2000 (nI (r 4)) (nI 0) d1 := by
      rw [e2, cl2_so]
      unfold fX11_ribLine
      rw [z2.1 142 4 (by omega) (by omega), hMR 4 (by omega)]
      rfl
    rw [eG]
    have k1 : ∀ x j, x ≠ 1 → ¬ (t ≤ x ∧ x ≤ t + 38) → c1.1 x j = c0.1 x j := fun x j q1 q2 => (y2.1 x j (by omega)).trans (fr1 x j q1 q2)
    have k2 : c1.2 = c0.2 := y2.2.trans fr2
    have hG1 := hG.tr z2.gf
    have m11 : d1.1 142 1 = nI (r 1) := (z2.1 142 1 (by omega) (by omega)).trans (hMR 1 (by omega))
    by_cases hk' : κ1 = 1
    · by_cases hn' : n1 = r 1
      · obtain ⟨a2, n2, κ2, hT2⟩ := Tk_ex N b hL1.bd.1
        obtain ⟨c2, g1, g2, g3, g4, g5⟩ := tc36 (s := s) (side := 0) ht hf hT2 hk' hn' h40 (by omega) n1 0 FU c1 hL1 c11 c14 r1 (by rw [spn_0]; exact hP.cg (fun x j z => y2.1 x j (by omega))) (by omega) (FU_pos (by omega))
        obtain ⟨d2, i1, i2, i3, i4, i5⟩ := rl9_s (f := 1999) (s := s) (side := 0) hM1 hf hT2 hk' m11 hn' h40 (by omega) (fun k hk => (z2.1 144 k (by omega) (by omega)).trans (hMS k hk))
        have hKs1 := hKs.spn hf hL1.2.2 hk' hn' h40 (side := 0) (by omega)
        have e3 : fX6_takeCells (0 : Int32) c1 = some (nI 1, c2) := by
          unfold fX6_takeCells
          simp (disch := omega) only [hL1.2.1.2.2, hk', hL1.2.1.2.1, r1, c11, hn', cl2_so, cl1_so, ck_tr, zl_0, zl_1, zl_2, zl_3, zl_4, zl_5, zl_6, zl_7, zl_8, zl_9, zl_10, zl_11, zl_12, zl_15, zl_16, zl_20, zl_24, zl_25, zl_30, zl_31, zl_32, zl_33, zl_44, zl_48, zl_50, zl_57, zl_59, zl_60, zl_61, zl_62, zl_63, zl_64, zl_68, zl_97, zl_99, zl_100, zl_104, zl_108, zl_114, zl_120, zl_122, zl_126, zl_132, zl_180, zl_181, zl_186, zl_255, zl_900, zl_930, zl_1000, zl_1000000, nI_add, pk_mul, zs_sub, zs_lt, zs_le, zs_eq, zs_inb, zs_cl, zm_eq, zm_eq2, zm_lt, zm_le, mz_lt, mz_le, mm_eq, zs_bit, zs_or1, zs_div, zs_rem, ck_pos, if_pos, if_neg, true_or, or_true, true_and, and_true, false_or, or_false, false_and, and_false, not_true, not_false_iff, if_true, if_false, eq_self, Bool.false_eq_true, cl2_id, Bool.not_true, Bool.not_false]
          exact g1
        have k3 : ∀ x j, x ≠ 1 → ¬ (t ≤ x ∧ x ≤ t + 38) → c2.1 x j = c0.1 x j := fun x j q1 q2 => (g4 x j (by omega) (by omega)).trans (k1 x j q1 q2)
        have r2 := rrm c2 (g5.trans y2.2)
        have c21 : c2.1 t 1 = nI (r 1) := (g4 t 1 (by omega) (by omega)).trans c11
        have c24 : c2.1 t 4 = nI (r 4) := (g4 t 4 (by omega) (by omega)).trans c14
        have hG2 : Gf d0 d2 := hG1.tr ⟨fun x j q1 q2 q3 q4 q5 => i4 x j q4 q2 (by omega), i5⟩
        have m21 : d2.1 142 1 = nI (r 1) := (i4 142 1 (by omega) (by omega) (by omega)).trans m11
        rw [i1]
        by_cases hk2 : κ2 = 1
        · by_cases hn2 : n2 = r 1
          · obtain ⟨a3, n3, κ3, hT3⟩ := Tk_ex N b g2.bd.1
            obtain ⟨c3, p1, p2, p3, p4, p5⟩ := tc36 (s := spn s b a1 (30 * 0 + 3 * r 4) n1) (side := 1) ht hf hT3 hk2 hn2 h40 (by omega) n2 0 FU c2 g2 c21 c24 r2 (by rw [spn_0]; exact g3) (by omega) (FU_pos (by omega))
            obtain ⟨d3, q1, q2, q3, q4, q5⟩ := rl9_s (f := 1998) (s := spn s b a1 (30 * 0 + 3 * r 4) n1) (side := 1) i2 hf hT3 hk2 m21 hn2 h40 (by omega) i3
            have hKs2 := hKs1.spn hf g2.2.2 hk2 hn2 h40 (side := 1) (by omega)
            have e4 : fX6_takeCells (1 : Int32) c2 = some (nI 1, c3) := by
              unfold fX6_takeCells
              simp (disch := omega) only [g2.2.1.2.2, hk2, g2.2.1.2.1, r2, c21, hn2, cl2_so, cl1_so, ck_tr, zl_0, zl_1, zl_2, zl_3, zl_4, zl_5, zl_6, zl_7, zl_8, zl_9, zl_10, zl_11, zl_12, zl_15, zl_16, zl_20, zl_24, zl_25, zl_30, zl_31, zl_32, zl_33, zl_44, zl_48, zl_50, zl_57, zl_59, zl_60, zl_61, zl_62, zl_63, zl_64, zl_68, zl_97, zl_99, zl_100, zl_104, zl_108, zl_114, zl_120, zl_122, zl_126, zl_132, zl_180, zl_181, zl_186, zl_255, zl_900, zl_930, zl_1000, zl_1000000, nI_add, pk_mul, zs_sub, zs_lt, zs_le, zs_eq, zs_inb, zs_cl, zm_eq, zm_eq2, zm_lt, zm_le, mz_lt, mz_le, mm_eq, zs_bit, zs_or1, zs_div, zs_rem, ck_pos, if_pos, if_neg, true_or, or_true, true_and, and_true, false_or, or_false, false_and, and_false, not_true, not_false_iff, if_true, if_false, eq_self, Bool.false_eq_true, cl2_id, Bool.not_true, Bool.not_false]
              exact p1
            have r3 := rrm c3 (p5.trans (g5.trans y2.2))
            have c34 : c3.1 t 4 = nI (r 4) := (p4 t 4 (by omega) (by omega)).trans c24
            have k4 : ∀ x j, x ≠ 1 → x ≠ t + 2 → c3.1 x j = mc.1 x j := fun x j z1 z2 => (p4 x j (by omega) z2).trans ((g4 x j (by omega) z2).trans (y2.1 x j (by omega)))
            have k5 : ∀ j, ¬ (4 ≤ j ∧ j ≤ 7) → c3.1 1 j = mc.1 1 j := fun j z1 => (p4 1 j (by omega) (by omega)).trans ((g4 1 j (by omega) (by omega)).trans (y2.1 1 j (by omega)))
            have hG3 : Gf d0 d3 := hG2.tr ⟨fun x j q1 q2 q3 q4' q5 => q4 x j q4' q2 (by omega), q5⟩
            have m3 : ∀ x j, x ≠ 144 → x ≠ 140 → ¬ (x = 138 ∧ 4 ≤ j ∧ j ≤ 8) → d3.1 x j = mm.1 x j := fun x j z1 z3 z4 => (q4 x j z1 z3 z4).trans ((i4 x j z1 z3 z4).trans (z2.1 x j z3 z4))
            have c24b : isB b a3 n3 κ3 24 = isB b a3 n3 κ3 12 := isB_cg (by decide)
            rw [q1]
            have eG3 : fX11_ribLine_9 1998 (nI (r 4)) (nI (1 + 1)) d3 = cl2 (fX11_takes 24 d3) fun r14 m15 => if r14 = (0 : Int32) then fX11_ribLine_142 m15 else fX11_ribLine_142 (setI m15 144 60 ((m15.1 144 60) ||| ((1 : Int32) <<< (nI (r 4) &&& (31 : Int32))))) := by
              rw [show (1998 : Nat) = 1997 + 1 from rfl, fX11_ribLine_9, if_pos (by decide)]
              unfold fX11_ribLine_112
              rw [q2.2.2.2, if_pos (by decide)]
            -- how it ends
            have fin : ∀ (c d : Me) (s' : Nat → Nat) (a' n' κ' : Nat), LC c N b a' n' κ' → LM d N b a' n' κ' → (∀ x j, x ≠ 1 → x ≠ t + 2 → x ≠ t + 1 → c.1 x j = mc.1 x j) → c.2 = mc.2 → c.1 1 3 = mc.1 1 3 → c.1 1 8 = mc.1 1 8 → CPs c (t + 1) r s' → (∀ x j, x ≠ 144 → x ≠ 140 → ¬ (x = 138 ∧ 4 ≤ j ∧ j ≤ 8) → d.1 x j = mm.1 x j) → d.2 = mm.2 → (∀ k, k < 62 → d.1 144 k = nI (s' k)) → OKs r s' → a < a' → ∃ mc' mm', fX6_readRib_82 c = some (nI 1, mc') ∧ fX11_ribLine_142 d = some mm' ∧ RC c0 mc' t N b a' n' κ' true (fun k => if k = 4 then r 4 + 1 else r k) s' ∧ RM d0 mm' N b a' n' κ' (fun k => if k = 4 then r 4 + 1 else r k) s' ∧ RP true (fun k => if k = 4 then r 4 + 1 else r k) s' := by
              intro c d s' a' n' κ' w1 w2 w3 w4 w5 w6 w7 w8 w9 w10 w11 w12
              have rc := rrm c w4
              have er : ∀ k, k ≠ 4 → (fun k => if k = 4 then r 4 + 1 else r k) k = r k := fun k hk => if_neg hk
              have ec4 : c.1 t 4 = nI (r 4) := (w3 t 4 (by omega) (by omega) (by omega)).trans h4
              refine ⟨setI c t 4 (nI (r 4 + 1)), setI d 142 4 (nI (r 4 + 1)), ?_, ?_, ⟨⟨fun x j z1 z2 => (sI_na (by omega)).trans ((w3 x j z1 (by omega) (by omega)).trans (fr1 x j z1 z2)), w4.trans fr2⟩, w1.cp (fun j => sI_na (by omega)) (fun j => sI_na (by omega)), ?_, ?_, ?_, sI_eq _ _ _ _, ?_⟩, ⟨?_, w2.tb (fun x j z => sI_na (by omega)), ?_, fun k hk => ?_, fun k hk => (sI_na (by decide)).trans (w10 k hk)⟩, fun q => absurd q (by decide), fun _ => ⟨?_, w11.cg rfl rfl rfl, ?_, ?_, ?_⟩⟩
              · unfold fX6_readRib_82
                rw [rc, ec4, zl_1, nI_add]
              · unfold fX11_ribLine_142
                rw [w8 142 4 (by omega) (by omega) (by omega), hMR 4 (by omega), zl_1, nI_add]
              · rw [sI_na (by omega), w5, h3]
              · rw [sI_na (by omega), w6, h8]
              · have cm : ∀ x j, t ≤ x → x ≤ t + 38 → x ≠ t + 2 → x ≠ t + 1 → ¬ (x = t ∧ j = 4) → (setI c t 4 (nI (r 4 + 1))).1 x j = mc.1 x j := fun x j z1 z2 z3 z4 z5 => by
                  rw [sI_1, if_neg z5, w3 x j (by omega) z3 z4]
                obtain ⟨⟨u0, u1, u3⟩, ⟨v2, v7, v9, v11, v13⟩, uW, uI, uS, uB⟩ := hCT
                refine ⟨⟨(cm t 0 (by omega) (by omega) (by omega) (by omega) (by omega)).trans u0, (cm t 1 (by omega) (by omega) (by omega) (by omega) (by omega)).trans u1, (cm t 3 (by omega) (by omega) (by omega) (by omega) (by omega)).trans u3⟩, ⟨(cm t 2 (by omega) (by omega) (by omega) (by omega) (by omega)).trans v2, (cm t 7 (by omega) (by omega) (by omega) (by omega) (by omega)).trans v7, (cm t 9 (by omega) (by omega) (by omega) (by omega) (by omega)).trans v9, (cm t 11 (by omega) (by omega) (by omega) (by omega) (by omega)).trans v11, (cm t 13 (by omega) (by omega) (by omega) (by omega) (by omega)).trans v13⟩, cW.cg uW hK.W hK.2.2.2.1 (fun x j z1 z2 => cm x j (by omega) (by omega) (by omega) (by omega) (by omega)) (fun k hk => er k (by omega)), cI.cg uI hK.I hK.2.2.2.2.1 (fun x j z1 z2 => cm x j (by omega) (by omega) (by omega) (by omega) (by omega)) (fun k hk => er k (by omega)), cS.cg uS hK.S hK.2.2.2.2.2.1 (fun x j z1 z2 => cm x j (by omega) (by omega) (by omega) (by omega) (by omega)) (fun k hk => er k (by omega)), cB.cg uB hK.2.2.2.2.2.2.1 (fun j => cm _ j (by omega) (by omega) (by omega) (by omega) (by omega)) (fun k hk => er k (by omega))⟩
              · exact (w7.cg (fun x j z => sI_na (by omega))).cr rfl rfl
              · exact ⟨fun x j z1 z2 z3 z4 z5 => (sI_na z3).trans ((w8 x j z4 z2 (by omega)).trans (hG.1 x j z1 z2 z3 z4 z5)), w9.trans hG.2⟩
              · rw [sI_na (by decide), w8 138 9 (by omega) (by omega) (by omega), h9]
              · by_cases z : k = 4
                · subst z
                  exact sI_eq _ _ _ _
                · rw [sI_nj z, w8 142 k (by omega) (by omega) (by omega), hMR k hk, er k z]
              · exact OKr.mk' (z_fan_cg rfl rfl rfl hf) (fun k hk => by
                  by_cases z : k = 4
                  · subst z
                    show r 4 + 1 < 1000
                    omega
                  · rw [if_neg z]
                    exact hK.2.1 k hk) hK.2.2.1 hK.2.2.2.1 hK.2.2.2.2.1 hK.2.2.2.2.2.1 hK.2.2.2.2.2.2.1 (hK.W.cg hK.2.2.2.1 (fun k hk => er k (by omega))) (hK.I.cg hK.2.2.2.2.1 (fun k hk => er k (by omega))) (hK.S.cg hK.2.2.2.2.2.1 (fun k hk => er k (by omega))) (hK.B.cg hK.2.2.2.2.2.2.1 (fun k hk => er k (by omega))) (hK.D.cg hK.W hK.2.2.2.1 (fun k hk => er k (by omega)))
              · show r 4 + 1 ≤ r 0
                omega
              · exact hK9
              · exact hK98
            have a3lt : a < a3 := by
              have := hT1.1
              have := hT2.1
              have := hT3.1
              omega
            cases hbr : isB b a3 n3 κ3 12
            · obtain ⟨mc', mm', o1, o2, o3, o4, o5⟩ := fin c3 d3 _ a3 n3 κ3 p2 q2 (fun x j z1 z2 _ => k4 x j z1 z2) (p5.trans (g5.trans y2.2)) (k5 3 (by omega)) (k5 8 (by omega)) p3 m3 (q5.trans (i5.trans z2.2)) q3 hKs2 a3lt
              refine Or.inr ⟨a3, n3, κ3, _, _, mc', mm', ?_, ?_, o3, o4, o5, a3lt⟩
              · rw [eF, e3, cl2_so, if_neg (by decide)]
                refine Eq.trans (cl2_e e4) ?_
                rw [if_neg (by decide)]
                refine Eq.trans (cl2_e (isn_e p2 (i := 12) (by decide))) ?_
                rw [hbr, if_pos (by decide)]
                exact o1
              · rw [eG3, tks_0 q2 (i := 24) (by decide) (c24b.trans hbr), cl2_so, if_pos (by decide)]
                exact o2
            · obtain ⟨a4, n4, κ4, hT4⟩ := Tk_ex N b p2.bd.1
              have hb60 : spn (spn s b a1 (30 * 0 + 3 * r 4) n1) b a2 (30 * 1 + 3 * r 4) n2 60 < 2 ^ r 0 := hKs2.2.1
              generalize hsp : spn (spn s b a1 (30 * 0 + 3 * r 4) n1) b a2 (30 * 1 + 3 * r 4) n2 = s2 at *
              have esh : nI (s2 60) ||| ((1 : Int32) <<< (nI (r 4) &&& (31 : Int32))) = nI (s2 60 ||| 2 ^ r 4) := zs_or1 (by omega)
              have hP3 := p3.s60 (s := fun k => if k = 60 then s2 60 ||| 2 ^ r 4 else s2 k) hf (fun k _ h => if_neg h)
              rw [if_pos (c := 60 = 60) rfl] at hP3
              have hL3 : LC (setI c3 (t + 1) 1 (nI (s2 60 ||| 2 ^ r 4))) N b a3 n3 κ3 := p2.cp (fun j => sI_na (by omega)) (fun j => sI_na (by omega))
              obtain ⟨c4, v1, v2, v3, -⟩ := hL3.st hT4
              obtain ⟨d4, w1, w2, w3⟩ := tks_1 q2 hT4 (i := 24) (by decide) (c24b.trans hbr)
              have a4lt : a < a4 := by
                have := hT4.1
                omega
              obtain ⟨mc', mm', o1, o2, o3, o4, o5⟩ := fin c4 (setI d4 144 60 (nI (s2 60 ||| 2 ^ r 4))) (fun k => if k = 60 then s2 60 ||| 2 ^ r 4 else s2 k) a4 n4 κ4 v2 (w2.tb (fun x j z => sI_na (by omega))) (fun x j z1 z2 z3 => (v3.1 x j (by omega)).trans ((sI_na z3).trans (k4 x j z1 z2))) (v3.2.trans (p5.trans (g5.trans y2.2))) ((v3.1 1 3 (by omega)).trans ((sI_na (by omega)).trans (k5 3 (by omega)))) ((v3.1 1 8 (by omega)).trans ((sI_na (by omega)).trans (k5 8 (by omega)))) (hP3.cg (fun x j z => v3.1 x j (by omega))) (fun x j z1 z2 z3 => (sI_na z1).trans ((w3.1 x j z2 z3).trans (m3 x j z1 z2 z3))) (w3.2.trans (q5.trans (i5.trans z2.2))) (fun k hk => by
                by_cases z : k = 60
                · subst z
                  rw [sI_eq, if_pos rfl]
                · rw [sI_nj z, if_neg z, w3.1 144 k (by omega) (by omega)]
                  exact q3 k hk) ⟨fun k hk => by
                    dsimp only
                    rw [if_neg (by omega)]
                    exact hKs2.1 k hk, by
                    dsimp only
                    rw [if_pos rfl]
                    exact Nat.or_lt_two_pow hb60 (Nat.pow_lt_pow_right (by decide) h40), by
                    dsimp only
                    rw [if_neg (by omega)]
                    exact hKs2.2.2.1, fun side' k z1 z2 z3 => by
                    dsimp only
                    rw [if_neg (by omega)]
                    exact hKs2.2.2.2 side' k z1 z2 z3⟩ a4lt
              refine Or.inr ⟨a4, n4, κ4, _, _, mc', mm', ?_, ?_, o3, o4, o5, a4lt⟩
              · rw [eF, e3, cl2_so, if_neg (by decide)]
                refine Eq.trans (cl2_e e4) ?_
                rw [if_neg (by decide)]
                refine Eq.trans (cl2_e (isn_e p2 (i := 12) (by decide))) ?_
                rw [hbr, if_neg (by decide), r3, p3.2.1, c34, esh]
                refine Eq.trans (cl1_e v1) ?_
                exact o1
              · have e60 : d4.1 144 60 = nI (s2 60) := (w3.1 144 60 (by omega) (by omega)).trans (q3 60 (by omega))
                rw [eG3, w1, cl2_so, if_neg (by decide), e60, esh]
                exact o2
          · refine Or.inl ⟨4, a2, by omega, ((tc_4 g2 hk2 r2 c21 f3 hn2 (1 : Int32)).cx (t := t) (m0 := c0) k3 (g5.trans k2)).eq (fun m' e => ?_), wrM d2 4 a2, rl9_4 i2 hk2 m21 f3 hn2 (f := 1998) (by omega) _, wr_FL _ _ _, hG2.wr _ _⟩
            rw [eF, e3, cl2_so, if_neg (by decide)]
            refine Eq.trans (cl2_e e) ?_
            rfl
        · refine Or.inl ⟨1, a2, by omega, ((tc_n g2 hk2 (1 : Int32)).cx (t := t) (m0 := c0) k3 (g5.trans k2)).eq (fun m' e => ?_), wrM d2 1 a2, rl9_n i2 hk2 (f := 1998) (by omega) _, wr_FL _ _ _, hG2.wr _ _⟩
          rw [eF, e3, cl2_so, if_neg (by decide)]
          refine Eq.trans (cl2_e e) ?_
          rfl
      · refine Or.inl ⟨4, a1, by omega, ((tc_4 hL1 hk' r1 c11 f3 hn' (0 : Int32)).cx (t := t) (m0 := c0) k1 k2).eq (fun m' e => ?_), wrM d1 4 a1, rl9_4 hM1 hk' m11 f3 hn' (f := 1999) (by omega) _, wr_FL _ _ _, hG1.wr _ _⟩
        rw [eF]
        refine Eq.trans (cl2_e e) ?_
        rfl
    · refine Or.inl ⟨1, a1, by omega, ((tc_n hL1 hk' (0 : Int32)).cx (t := t) (m0 := c0) k1 k2).eq (fun m' e => ?_), wrM d1 1 a1, rl9_n hM1 hk' (f := 1999) (by omega) _, wr_FL _ _ _, hG1.wr _ _⟩
      rw [eF]
      refine Eq.trans (cl2_e e) ?_
      rfl
  · rw [if_neg h40]
    have e5 := beg_0 (r := r) hLM (i := 23) (by decide) hb (hMR 0 (by omega)) ⟨f0, f1⟩ 5
    refine Or.inl ⟨5, a, by omega, ((flC_fl (m := mc) (nb := 5) (a := a)).cx (t := t) (m0 := c0) fr1 fr2).eq (fun m' e => ?_), wrM mm 5 a, ?_, wr_FL _ _ _, hG.wr _ _⟩
    · rw [← e]
      unfold fX6_readRib
      rw [rrm mc rfl, h4, c0', if_neg (fun q => h40 ((zs_lt (by omega) (by omega)).mp q))]
      simp (disch := omega) only [fail_e hL.2.1.1, cl2_so, cl1_so, ck_tr, zl_0, zl_1, zl_2, zl_3, zl_4, zl_5, zl_6, zl_7, zl_8, zl_9, zl_10, zl_11, zl_12, zl_15, zl_16, zl_20, zl_24, zl_25, zl_30, zl_31, zl_32, zl_33, zl_44, zl_48, zl_50, zl_57, zl_59, zl_60, zl_61, zl_62, zl_63, zl_64, zl_68, zl_97, zl_99, zl_100, zl_104, zl_108, zl_114, zl_120, zl_122, zl_126, zl_132, zl_180, zl_181, zl_186, zl_255, zl_900, zl_930, zl_1000, zl_1000000, nI_add, pk_mul, zs_sub, zs_lt, zs_le, zs_eq, zs_inb, zs_cl, zm_eq, zm_eq2, zm_lt, zm_le, mz_lt, mz_le, mm_eq, zs_bit, zs_or1, zs_div, zs_rem, ck_pos, if_pos, if_neg, true_or, or_true, true_and, and_true, false_or, or_false, false_and, and_false, not_true, not_false_iff, if_true, if_false, eq_self, Bool.false_eq_true, cl2_id, Bool.not_true, Bool.not_false]
    · refine (cl2_e e5).trans (rib_d (wr_13 _ _ _))
end RIB
