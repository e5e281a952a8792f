/-! tables as they grow -/
section TAB
variable {r r' : Nat → Nat}
def kW (r : Nat → Nat) : Prop := ∀ w, w < r 5 → 1 ≤ r (10 + w) ∧ r (10 + w) ≤ 8 ∧ ∀ k, k < r (10 + w) → r (16 + 8 * w + k) ≤ 25
def kI (r : Nat → Nat) : Prop := ∀ i, i < r 6 → 1 ≤ r (64 + i) ∧ r (64 + i) ≤ 8 ∧ r (100 + i) ≤ 1 ∧ r (104 + i) ≤ z_mo r ∧ ∀ k, k < r (64 + i) → r (68 + 8 * i + k) ≤ 25
def kS (r : Nat → Nat) : Prop := ∀ q, q < r 7 → 1 ≤ r (126 + q) ∧ r (126 + q) ≤ 8 ∧ r (108 + q) ≤ 1 ∧ r (114 + q) ≤ z_mo r ∧ r (120 + q) + r (126 + q) ≤ (z_show r (r (108 + q)) (r (114 + q)) 0).length ∧ ∀ k, k < r (126 + q) → r (132 + 8 * q + k) ≤ 25
def kB (r : Nat → Nat) : Prop := ∀ b, b < r 8 → r (180 + b) ≤ z_mo r
def kD (r : Nat → Nat) : Prop := ∀ v w, v < r 5 → w < r 5 → z_w r (16 + 8 * v) (r (10 + v)) = z_w r (16 + 8 * w) (r (10 + w)) → v = w
theorem OKr.mk' (h1 : z_fan r) (h2 : ∀ k, k < 186 → r k < 1000) (h3 : r 2 ≤ 99) (h5 : r 5 ≤ 6) (h6 : r 6 ≤ 4) (h7 : r 7 ≤ 6) (h8 : r 8 ≤ 6) (a : kW r) (b : kI r) (c : kS r) (d : kB r) (e : kD r) : OKr r := ⟨h1, h2, h3, h5, h6, h7, h8, a, b, c, d, e⟩
theorem OKr.W (h : OKr r) : kW r := h.2.2.2.2.2.2.2.1
theorem OKr.I (h : OKr r) : kI r := h.2.2.2.2.2.2.2.2.1
theorem OKr.S (h : OKr r) : kS r := h.2.2.2.2.2.2.2.2.2.1
theorem OKr.B (h : OKr r) : kB r := h.2.2.2.2.2.2.2.2.2.2.1
theorem OKr.D (h : OKr r) : kD r := h.2.2.2.2.2.2.2.2.2.2.2
theorem z_w_cg {fr many : Nat} (e : ∀ k, k < many → r' (fr + k) = r (fr + k)) : z_w r' fr many = z_w r fr many := by
  unfold z_w
  apply List.map_congr_left
  intro k hk
  exact e k (List.mem_range.mp hk)
theorem z_mo_cg (e0 : r' 0 = r 0) (e1 : r' 1 = r 1) (e3 : r' 3 = r 3) : z_mo r' = z_mo r := by
  unfold z_mo
  rw [e0, e1, e3]
theorem z_fan_cg (e0 : r' 0 = r 0) (e1 : r' 1 = r 1) (e3 : r' 3 = r 3) (h : z_fan r) : z_fan r' := by
  unfold z_fan at h ⊢
  rw [e0, e1, e3]
  exact h
theorem z_seg_cg (e0 : r' 0 = r 0) (e1 : r' 1 = r 1) (e3 : r' 3 = r 3) (side op br k : Nat) : z_seg r' side op br k = z_seg r side op br k := by
  unfold z_seg z_op z_rib
  rw [e0, e1, e3]
theorem z_from_cg (e0 : r' 0 = r 0) (e1 : r' 1 = r 1) (e3 : r' 3 = r 3) (side op br : Nat) : ∀ j k, z_from r' side op br j k = z_from r side op br j k
  | 0, k => rfl
  | j + 1, k => by
    rw [z_from, z_from, z_seg_cg e0 e1 e3, z_from_cg e0 e1 e3 side op br j (k + 1)]
theorem z_show_cg (e0 : r' 0 = r 0) (e1 : r' 1 = r 1) (e3 : r' 3 = r 3) (side op br : Nat) : z_show r' side op br = z_show r side op br := by
  unfold z_show
  rw [e0]
  exact z_from_cg e0 e1 e3 side op br _ _
theorem kW.cg (h : kW r) (h5 : r 5 ≤ 6) (e : ∀ k, (k = 5 ∨ 10 ≤ k ∧ k < 64) → r' k = r k) : kW r' := fun w hw => by
  rw [e 5 (by omega)] at hw
  obtain ⟨a, b, c⟩ := h w hw
  rw [e (10 + w) (by omega)]
  exact ⟨a, b, fun k hk => by rw [e (16 + 8 * w + k) (by omega)]; exact c k hk⟩
theorem kI.cg (h : kI r) (h6 : r 6 ≤ 4) (e : ∀ k, (k = 0 ∨ k = 1 ∨ k = 3 ∨ k = 6 ∨ 64 ≤ k ∧ k < 108) → r' k = r k) : kI r' := fun w hw => by
  rw [e 6 (by omega)] at hw
  obtain ⟨a, b, c, d, f⟩ := h w hw
  rw [e (64 + w) (by omega), e (100 + w) (by omega), e (104 + w) (by omega), z_mo_cg (e 0 (by omega)) (e 1 (by omega)) (e 3 (by omega))]
  exact ⟨a, b, c, d, fun k hk => by rw [e (68 + 8 * w + k) (by omega)]; exact f k hk⟩
theorem kS.cg (h : kS r) (h7 : r 7 ≤ 6) (e : ∀ k, (k = 0 ∨ k = 1 ∨ k = 3 ∨ k = 7 ∨ 108 ≤ k ∧ k < 180) → r' k = r k) : kS r' := fun w hw => by
  rw [e 7 (by omega)] at hw
  obtain ⟨a, b, c, d, f, g⟩ := h w hw
  rw [e (126 + w) (by omega), e (108 + w) (by omega), e (114 + w) (by omega), e (120 + w) (by omega), z_mo_cg (e 0 (by omega)) (e 1 (by omega)) (e 3 (by omega)), z_show_cg (e 0 (by omega)) (e 1 (by omega)) (e 3 (by omega))]
  exact ⟨a, b, c, d, f, fun k hk => by rw [e (132 + 8 * w + k) (by omega)]; exact g k hk⟩
theorem kB.cg (h : kB r) (h8 : r 8 ≤ 6) (e : ∀ k, (k = 0 ∨ k = 1 ∨ k = 3 ∨ k = 8 ∨ 180 ≤ k ∧ k < 186) → r' k = r k) : kB r' := fun w hw => by
  rw [e 8 (by omega)] at hw
  rw [e (180 + w) (by omega), z_mo_cg (e 0 (by omega)) (e 1 (by omega)) (e 3 (by omega))]
  exact h w hw
theorem kD.cg (h : kD r) (hW : kW r) (h5 : r 5 ≤ 6) (e : ∀ k, (k = 5 ∨ 10 ≤ k ∧ k < 64) → r' k = r k) : kD r' := fun v w hv hw => by
  rw [e 5 (by omega)] at hv hw
  have b1 := (hW v hv).2.1
  have b2 := (hW w hw).2.1
  rw [e (10 + v) (by omega), e (10 + w) (by omega), z_w_cg (fun k hk => e _ (by omega)), z_w_cg (r' := r') (r := r) (fr := 16 + 8 * w) (fun k hk => e _ (by omega))]
  exact h v w hv hw
theorem OKs.cg {s : Nat → Nat} (h : OKs r s) (e0 : r' 0 = r 0) (e1 : r' 1 = r 1) (e3 : r' 3 = r 3) : OKs r' s := by
  unfold OKs at h ⊢
  rw [z_mo_cg e0 e1 e3, e0, e1]
  exact h
theorem CPs.cr {m : Me} {p : Nat} {s : Nat → Nat} (h : CPs m p r s) (e0 : r' 0 = r 0) (e1 : r' 1 = r 1) : CPs m p r' s := by
  unfold CPs CP at h ⊢
  rw [e0, e1]
  exact h
/-- a sum, from both ends -/
def sS (f : Nat → Nat) : Nat → Nat
  | 0 => 0
  | n + 1 => sS f n + f n
theorem sS_front (f : Nat → Nat) : ∀ n, sS f (n + 1) = f 0 + sS (fun i => f (i + 1)) n
  | 0 => by simp [sS]
  | n + 1 => by
    rw [sS, sS_front f n, sS]
    omega
theorem sS_cg {f g : Nat → Nat} : ∀ n, (∀ i, i < n → f i = g i) → sS f n = sS g n
  | 0, _ => rfl
  | n + 1, h => by
    rw [sS, sS, sS_cg n (fun i hi => h i (by omega)), h n (by omega)]
theorem sS_rev (f : Nat → Nat) : ∀ n, sS (fun i => f (n - 1 - i)) n = sS f n
  | 0 => rfl
  | n + 1 => by
    rw [sS_front, sS]
    have e : sS (fun i => f (n + 1 - 1 - (i + 1))) n = sS (fun i => f (n - 1 - i)) n := sS_cg n (fun i hi => by congr 1; omega)
    rw [e, sS_rev f n]
    show f (n + 1 - 1 - 0) + sS f n = _
    rw [show n + 1 - 1 - 0 = n by omega]
    omega
theorem show_len (r : Nat → Nat) (side op : Nat) : ∀ j k, (z_from r side op 0 j k).length = sS (fun i => z_op r (k + i) (z_rib r side (k + i)) op) j
  | 0, k => rfl
  | j + 1, k => by
    rw [z_from, List.length_append, show_len r side op j (k + 1), sS_front]
    have e1 : (z_seg r side op 0 k).length = z_op r (k + 0) (z_rib r side (k + 0)) op := by
      unfold z_seg
      rw [if_neg (by simp), List.length_map, List.length_range]
      rfl
    rw [e1]
    congr 1
    exact sS_cg j (fun i hi => by rw [show k + 1 + i = k + (i + 1) by omega])
theorem whole_e {m : Me} {t : Nat} (h : CF m t r) (hf : z_fan r) {side op : Nat} (hs : side ≤ 1) (ho : op ≤ z_mo r) : fX2_wholeLength t (nI side) (nI op) m = some (nI (z_show r side op 0).length, m) := by
  obtain ⟨f0, f1, f2, f3, f4⟩ := id hf
  have hg : ∀ k, k < r 0 → z_op r k (z_rib r side k) op ≤ 3 := fun k hk => Nat.le_trans (z_op_le hf ho) f3
  have go : ∀ j k n acc, k + j = r 0 → j < n → acc ≤ 3 * k → fX2_wholeLength_5 n t (nI side) (nI op) (nI acc) (nI k) m = some (nI (acc + sS (fun i => z_op r (if side = 0 then k + i else r 0 - 1 - (k + i)) (k + i) op) j), m) := by
    intro j
    induction j with
    | zero =>
      intro k n acc hk hn ha
      obtain ⟨n, rfl⟩ : ∃ n', n = n' + 1 := ⟨n - 1, by omega⟩
      have h0 := h.1
      rw [fX2_wholeLength_5]
      simp (disch := omega) only [h0, sS, Nat.add_zero, cl2_so, cl1_so, ck_tr, zl_0, zl_1, zl_2, zl_3, zl_4, zl_5, zl_6, zl_7, zl_8, zl_9, zl_10, zl_11, zl_12, zl_15, zl_16, zl_20, zl_24, zl_25, zl_30, zl_31, zl_32, zl_33, zl_44, zl_48, zl_50, zl_57, zl_59, zl_60, zl_61, zl_62, zl_63, zl_64, zl_68, zl_97, zl_99, zl_100, zl_104, zl_108, zl_114, zl_120, zl_122, zl_126, zl_132, zl_180, zl_181, zl_186, zl_255, zl_900, zl_930, zl_1000, zl_1000000, nI_add, pk_mul, zs_sub, zs_lt, zs_le, zs_eq, zs_inb, zs_cl, zm_eq, zm_eq2, zm_lt, zm_le, mz_lt, mz_le, mm_eq, zs_bit, zs_or1, zs_div, zs_rem, ck_pos, if_pos, if_neg, true_or, or_true, true_and, and_true, false_or, or_false, false_and, and_false, not_true, not_false_iff, if_true, if_false, eq_self, Bool.false_eq_true, cl2_id, Bool.not_true, Bool.not_false]
    | succ j ih =>
      intro k n acc hk hn ha
      obtain ⟨n, rfl⟩ : ∃ n', n = n' + 1 := ⟨n - 1, by omega⟩
      have h0 := h.1
      have e : fX2_openCells t (nI side) (nI k) (nI op) m = some (nI (z_op r (if side = 0 then k else r 0 - 1 - k) k op), m) := by
        have e1 := fX2_openCells_e h hf (side := side) (k := if side = 0 then k else r 0 - 1 - k) (op := op) hs (by split <;> omega) ho
        have e2 : z_rib r side (if side = 0 then k else r 0 - 1 - k) = k := by
          unfold z_rib
          by_cases q : side = 0
          · rw [if_pos q, if_pos q]
          · rw [if_neg q, if_neg q]
            omega
        rw [e2] at e1
        exact e1
      have hb : z_op r (if side = 0 then k else r 0 - 1 - k) k op ≤ 3 := by
        have e2 : z_rib r side (if side = 0 then k else r 0 - 1 - k) = k := by
          unfold z_rib
          by_cases q : side = 0
          · rw [if_pos q, if_pos q]
          · rw [if_neg q, if_neg q]
            omega
        have := hg (if side = 0 then k else r 0 - 1 - k) (by split <;> omega)
        rw [e2] at this
        exact this
      have ih' := ih (k + 1) n (acc + z_op r (if side = 0 then k else r 0 - 1 - k) k op) (by omega) (by omega) (by omega)
      rw [fX2_wholeLength_5]
      simp (disch := omega) only [h0, e, cl2_so, cl1_so, ck_tr, zl_0, zl_1, zl_2, zl_3, zl_4, zl_5, zl_6, zl_7, zl_8, zl_9, zl_10, zl_11, zl_12, zl_15, zl_16, zl_20, zl_24, zl_25, zl_30, zl_31, zl_32, zl_33, zl_44, zl_48, zl_50, zl_57, zl_59, zl_60, zl_61, zl_62, zl_63, zl_64, zl_68, zl_97, zl_99, zl_100, zl_104, zl_108, zl_114, zl_120, zl_122, zl_126, zl_132, zl_180, zl_181, zl_186, zl_255, zl_900, zl_930, zl_1000, zl_1000000, nI_add, pk_mul, zs_sub, zs_lt, zs_le, zs_eq, zs_inb, zs_cl, zm_eq, zm_eq2, zm_lt, zm_le, mz_lt, mz_le, mm_eq, zs_bit, zs_or1, zs_div, zs_rem, ck_pos, if_pos, if_neg, true_or, or_true, true_and, and_true, false_or, or_false, false_and, and_false, not_true, not_false_iff, if_true, if_false, eq_self, Bool.false_eq_true, cl2_id, Bool.not_true, Bool.not_false]
      rw [ih', sS_front, Nat.add_assoc]
      congr 3
      simp only [Nat.add_zero]
      congr 2
      apply sS_cg
      intro i hi
      rw [show k + 1 + i = k + (i + 1) by omega]
  have e := go (r 0) 0 FU 0 (by omega) (FU_pos (by omega)) (by omega)
  unfold fX2_wholeLength
  refine e.trans ?_
  congr 2
  unfold z_show
  rw [show_len, Nat.zero_add]
  congr 1
  have hs2 : side = 0 ∨ side = 1 := by omega
  rcases hs2 with rfl | rfl
  · apply sS_cg
    intro i hi
    rw [if_pos rfl]
    rfl
  · rw [← sS_rev]
    apply sS_cg
    intro i hi
    rw [if_neg (by decide)]
    unfold z_rib
    rw [if_neg (by decide), Nat.zero_add, Nat.zero_add]
    rw [show r 0 - 1 - (r 0 - 1 - i) = i by omega]
end TAB
