section RULES
variable {call call' : MI → List Value → Sm → Option Value → Sm → Prop} {μ : MI} {pc : Nat} {ls ls' : Lo} {st : List Value} {S : Sh} {m : Me} {c' : Cf} {r : Option Value} {σ' : Sm}
def Ext (ls' ls : Lo) : Prop := ∀ i v, ls'.lookup i = some v → ls.lookup i = some v
theorem ext_nil {ls : Lo} : Ext [] ls := fun i v h => by simp at h
theorem ext_cons {ls t : Lo} {i : Nat} {v : Value} (h : ls.lookup i = some v) (ht : Ext t ls) : Ext ((i, v) :: t) ls := by
  intro j w hj
  rw [List.lookup_cons] at hj
  by_cases e : (j == i) = true
  · rw [e] at hj
    simp at hj e
    subst hj; subst e
    exact h
  · have e' : (j == i) = false := by simpa using e
    rw [e'] at hj
    exact ht j w hj
theorem look_stl {ls : Lo} {i j : Nat} {v : Value} : (stl ls i v).lookup j = if j = i then some v else ls.lookup j := by
  unfold stl
  rw [List.lookup_cons]
  by_cases e : j = i
  · subst e; simp
  · rw [if_neg e, show (j == i) = false by simpa using e]
    show List.lookup j (ls.filter _) = _
    induction ls with
    | nil => rfl
    | cons q t ih =>
      obtain ⟨k, w⟩ := q
      by_cases hk : k = i
      · subst hk
        have e2 : (j == k) = false := by simpa using e
        simp only [List.filter_cons, beq_self_eq_true, Bool.not_true, Bool.false_eq_true, if_false, List.lookup_cons, e2]
        exact ih
      · have e2 : (k == i) = false := by simpa using hk
        simp only [List.filter_cons, e2, Bool.not_false, if_true, List.lookup_cons]
        cases hh : (j == k)
        · exact ih
        · rfl
theorem ext_stl {i : Nat} {v : Value} (h : Ext ls' ls) : Ext (stl ls' i v) (stl ls i v) := by
  intro j w hj
  rw [look_stl] at hj ⊢
  by_cases e : j = i
  · rw [if_pos e] at hj ⊢; exact hj
  · rw [if_neg e] at hj ⊢; exact h j w hj
theorem OneI_mono {ins : Instr} {len : Nat} (hc : ∀ μ' vs σ r σ1, call μ' vs σ r σ1 → call' μ' vs σ r σ1) (h : OneI call μ pc ls st S m c' ins len) : OneI call' μ pc ls st S m c' ins len := by
  unfold OneI at h ⊢
  split at h
  · exact h
  · exact h
  · exact h
  · exact h
  · exact h
  · exact h
  · exact h
  · exact h
  · exact h
  · exact h
  · exact h
  · exact h
  · exact h
  · exact h
  · exact h
  · exact h
  · exact h
  · exact h
  · exact h
  · exact h
  · exact h
  · exact h
  · exact h
  · exact h
  · exact h
  · exact h
  · exact h
  · exact h
  · exact h
  · exact h
  · exact h
  · exact h
  · exact h
  · exact h
  · exact h
  · exact h
  · exact h
  · exact h
  · exact h
  · exact h
  · exact h
  · exact h
  · exact h
  · exact h
  · exact h
  · exact h
  · exact h
  · obtain ⟨rfl, μ', vs, a, st', r, σ1, rfl, h1, h2, h3, h4, h5, h6, h7, rfl⟩ := h
    · exact ⟨rfl, μ', vs, a, st', r, σ1, rfl, h1, h2, h3, h4, h5, h6, hc _ _ _ _ _ h7, rfl⟩
  · obtain ⟨rfl, ⟨μ', vs, st', r, σ1, rfl, h1, h2, h3, h4, h5, rfl⟩ | ⟨a0, a1, sp, dp, x, st', n0, n1, rfl, h0, h1, h2, h3, h4, h5, h6, h7, h8, h9, h10, h11, rfl⟩ | ⟨x, y, st', rfl, h1, h2, ⟨h3, h4, h5, rfl⟩ | ⟨h3, h4, h5, rfl⟩⟩⟩ := h
    · exact ⟨rfl, (Or.inl ⟨μ', vs, st', r, σ1, rfl, h1, h2, h3, h4, hc _ _ _ _ _ h5, rfl⟩)⟩
    · exact ⟨rfl, (Or.inr (Or.inl ⟨a0, a1, sp, dp, x, st', n0, n1, rfl, h0, h1, h2, h3, h4, h5, h6, h7, h8, h9, h10, h11, rfl⟩))⟩
    · exact ⟨rfl, (Or.inr (Or.inr ⟨x, y, st', rfl, h1, h2, (Or.inl ⟨h3, h4, h5, rfl⟩)⟩))⟩
    · exact ⟨rfl, (Or.inr (Or.inr ⟨x, y, st', rfl, h1, h2, (Or.inr ⟨h3, h4, h5, rfl⟩)⟩))⟩
  · obtain ⟨rfl, ⟨a, st', rfl, h0, h1, h2, h3, h4, rfl⟩ | ⟨μ', vs, a, st', σ1, rfl, h0, h1, h2, h3, h4, h5, h6, h7, rfl⟩⟩ := h
    · exact ⟨rfl, (Or.inl ⟨a, st', rfl, h0, h1, h2, h3, h4, rfl⟩)⟩
    · exact ⟨rfl, (Or.inr ⟨μ', vs, a, st', σ1, rfl, h0, h1, h2, h3, h4, h5, h6, hc _ _ _ _ _ h7, rfl⟩)⟩
  · exact h.elim
theorem OneI_ext {ins : Instr} {len : Nat} (hx : Ext ls' ls) (h : OneI call μ pc ls' st S m c' ins len) : ∃ ls1, OneI call μ pc ls st S m (c'.1, ls1, c'.2.2) ins len ∧ Ext c'.2.1 ls1 := by
  unfold OneI at h ⊢
  split at h
  · obtain ⟨rfl, rfl⟩ := h
    · exact ⟨ls, ⟨rfl, rfl⟩, hx⟩
  · obtain ⟨rfl, rfl⟩ := h
    · exact ⟨ls, ⟨rfl, rfl⟩, hx⟩
  · obtain ⟨rfl, rfl⟩ := h
    · exact ⟨ls, ⟨rfl, rfl⟩, hx⟩
  · obtain ⟨rfl, ⟨v, hc, rfl⟩ | ⟨i, tx, hi, rfl⟩⟩ := h
    · exact ⟨ls, ⟨rfl, (Or.inl ⟨v, hc, rfl⟩)⟩, hx⟩
    · exact ⟨ls, ⟨rfl, (Or.inr ⟨i, tx, hi, rfl⟩)⟩, hx⟩
  · obtain ⟨rfl, v, hc, rfl⟩ := h
    · exact ⟨ls, ⟨rfl, v, hc, rfl⟩, hx⟩
  · obtain ⟨rfl, x, hi, rfl⟩ := h
    · exact ⟨ls, ⟨rfl, x, hx _ _ hi, rfl⟩, hx⟩
  · obtain ⟨rfl, x, hi, rfl⟩ := h
    · exact ⟨ls, ⟨rfl, x, hx _ _ hi, rfl⟩, hx⟩
  · obtain ⟨rfl, x, hi, hx4, rfl⟩ := h
    · exact ⟨ls, ⟨rfl, x, hx _ _ hi, hx4, rfl⟩, hx⟩
  · obtain ⟨rfl, x, hi, hx4, rfl⟩ := h
    · exact ⟨ls, ⟨rfl, x, hx _ _ hi, hx4, rfl⟩, hx⟩
  · obtain ⟨rfl, x, st', rfl, hk, rfl⟩ := h
    · exact ⟨_, ⟨rfl, x, st', rfl, hk, rfl⟩, ext_stl hx⟩
  · obtain ⟨rfl, x, st', rfl, hk, rfl⟩ := h
    · exact ⟨_, ⟨rfl, x, st', rfl, hk, rfl⟩, ext_stl hx⟩
  · obtain ⟨rfl, x, st', rfl, hx4, hk, rfl⟩ := h
    · exact ⟨_, ⟨rfl, x, st', rfl, hx4, hk, rfl⟩, ext_stl hx⟩
  · obtain ⟨rfl, x, st', rfl, hx4, hk, rfl⟩ := h
    · exact ⟨_, ⟨rfl, x, st', rfl, hx4, hk, rfl⟩, ext_stl hx⟩
  · rename_i k n
    obtain ⟨rfl, x, hi, hk, rfl⟩ := h
    · exact ⟨stl ls k (.int (x + Int32.ofInt n)), ⟨rfl, x, hx _ _ hi, hk, rfl⟩, ext_stl hx⟩
  · obtain ⟨rfl, x, y, st', rfl, rfl⟩ := h
    · exact ⟨ls, ⟨rfl, x, y, st', rfl, rfl⟩, hx⟩
  · obtain ⟨rfl, x, y, st', rfl, rfl⟩ := h
    · exact ⟨ls, ⟨rfl, x, y, st', rfl, rfl⟩, hx⟩
  · obtain ⟨rfl, x, y, st', rfl, rfl⟩ := h
    · exact ⟨ls, ⟨rfl, x, y, st', rfl, rfl⟩, hx⟩
  · obtain ⟨rfl, x, y, st', rfl, rfl⟩ := h
    · exact ⟨ls, ⟨rfl, x, y, st', rfl, rfl⟩, hx⟩
  · obtain ⟨rfl, x, y, st', rfl, rfl⟩ := h
    · exact ⟨ls, ⟨rfl, x, y, st', rfl, rfl⟩, hx⟩
  · obtain ⟨rfl, x, y, st', rfl, rfl⟩ := h
    · exact ⟨ls, ⟨rfl, x, y, st', rfl, rfl⟩, hx⟩
  · obtain ⟨rfl, x, y, st', rfl, rfl⟩ := h
    · exact ⟨ls, ⟨rfl, x, y, st', rfl, rfl⟩, hx⟩
  · obtain ⟨rfl, x, y, st', rfl, rfl⟩ := h
    · exact ⟨ls, ⟨rfl, x, y, st', rfl, rfl⟩, hx⟩
  · obtain ⟨rfl, x, y, st', rfl, rfl⟩ := h
    · exact ⟨ls, ⟨rfl, x, y, st', rfl, rfl⟩, hx⟩
  · obtain ⟨rfl, x, y, st', rfl, hy, rfl⟩ := h
    · exact ⟨ls, ⟨rfl, x, y, st', rfl, hy, rfl⟩, hx⟩
  · obtain ⟨rfl, x, y, st', rfl, hy, rfl⟩ := h
    · exact ⟨ls, ⟨rfl, x, y, st', rfl, hy, rfl⟩, hx⟩
  · obtain ⟨rfl, x, st', rfl, rfl⟩ := h
    · exact ⟨ls, ⟨rfl, x, st', rfl, rfl⟩, hx⟩
  · obtain ⟨rfl, x, st', rfl, rfl⟩ := h
    · exact ⟨ls, ⟨rfl, x, st', rfl, rfl⟩, hx⟩
  · obtain ⟨rfl, v, st', rfl, hv, rfl⟩ := h
    · exact ⟨ls, ⟨rfl, v, st', rfl, hv, rfl⟩, hx⟩
  · obtain ⟨rfl, v, w, st', rfl, hv, hw, rfl⟩ := h
    · exact ⟨ls, ⟨rfl, v, w, st', rfl, hv, hw, rfl⟩, hx⟩
  · obtain ⟨rfl, v, st', rfl, hv, rfl⟩ := h
    · exact ⟨ls, ⟨rfl, v, st', rfl, hv, rfl⟩, hx⟩
  · obtain ⟨rfl, tgt, ht, rfl⟩ := h
    · exact ⟨ls, ⟨rfl, tgt, ht, rfl⟩, hx⟩
  · obtain ⟨rfl, x, st', tgt, rfl, ht, ⟨hc, rfl⟩ | ⟨hc, rfl⟩⟩ := h
    · exact ⟨ls, ⟨rfl, x, st', tgt, rfl, ht, (Or.inl ⟨hc, rfl⟩)⟩, hx⟩
    · exact ⟨ls, ⟨rfl, x, st', tgt, rfl, ht, (Or.inr ⟨hc, rfl⟩)⟩, hx⟩
  · obtain ⟨rfl, x, y, st', tgt, rfl, ht, ⟨hc, rfl⟩ | ⟨hc, rfl⟩⟩ := h
    · exact ⟨ls, ⟨rfl, x, y, st', tgt, rfl, ht, (Or.inl ⟨hc, rfl⟩)⟩, hx⟩
    · exact ⟨ls, ⟨rfl, x, y, st', tgt, rfl, ht, (Or.inr ⟨hc, rfl⟩)⟩, hx⟩
  · obtain ⟨x, st', rfl, ⟨hc, tgt, ht, rfl⟩ | ⟨h1, h2, off, ho, tgt, ht, rfl⟩⟩ := h
    · exact ⟨ls, ⟨x, st', rfl, (Or.inl ⟨hc, tgt, ht, rfl⟩)⟩, hx⟩
    · exact ⟨ls, ⟨x, st', rfl, (Or.inr ⟨h1, h2, off, ho, tgt, ht, rfl⟩)⟩, hx⟩
  · obtain ⟨rfl, ⟨hc, rfl⟩ | ⟨hc, rfl⟩⟩ := h
    · exact ⟨ls, ⟨rfl, (Or.inl ⟨hc, rfl⟩)⟩, hx⟩
    · exact ⟨ls, ⟨rfl, (Or.inr ⟨hc, rfl⟩)⟩, hx⟩
  · obtain ⟨rfl, ⟨a, st', k, n, C, T, N, j, rfl, ha, hv, hj, hC, hL, rfl⟩ | ⟨i, st', rfl, hi, ⟨hc, rfl⟩ | ⟨hc, rfl⟩⟩⟩ := h
    · exact ⟨ls, ⟨rfl, (Or.inl ⟨a, st', k, n, C, T, N, j, rfl, ha, hv, hj, hC, hL, rfl⟩)⟩, hx⟩
    · exact ⟨ls, ⟨rfl, (Or.inr ⟨i, st', rfl, hi, (Or.inl ⟨hc, rfl⟩)⟩)⟩, hx⟩
    · exact ⟨ls, ⟨rfl, (Or.inr ⟨i, st', rfl, hi, (Or.inr ⟨hc, rfl⟩)⟩)⟩, hx⟩
  · obtain ⟨rfl, v, a, st', k, n, C, T, N, j, ty, rfl, ha, hv, hj, hC, hL, hty, hfin, ⟨x, rfl, hrt, hn, hf, rfl⟩ | ⟨b, rfl, hbl, hrt, hnf, rfl⟩⟩ := h
    · exact ⟨ls, ⟨rfl, _, a, st', k, n, C, T, N, j, ty, rfl, ha, hv, hj, hC, hL, hty, hfin, (Or.inl ⟨x, rfl, hrt, hn, hf, rfl⟩)⟩, hx⟩
    · exact ⟨ls, ⟨rfl, _, a, st', k, n, C, T, N, j, ty, rfl, ha, hv, hj, hC, hL, hty, hfin, (Or.inr ⟨b, rfl, hbl, hrt, hnf, rfl⟩)⟩, hx⟩
  · obtain ⟨rfl, ⟨a, st', k, n, rfl, ha, h1, h2, rfl⟩ | ⟨i, st', rfl, hi, rfl⟩⟩ := h
    · exact ⟨ls, ⟨rfl, (Or.inl ⟨a, st', k, n, rfl, ha, h1, h2, rfl⟩)⟩, hx⟩
    · exact ⟨ls, ⟨rfl, (Or.inr ⟨i, st', rfl, hi, rfl⟩)⟩, hx⟩
  · obtain ⟨rfl, a, i, st', n, rfl, ha, hin, rfl⟩ := h
    · exact ⟨ls, ⟨rfl, a, i, st', n, rfl, ha, hin, rfl⟩, hx⟩
  · obtain ⟨rfl, ⟨a, i, st', n, rfl, ha, hin, rfl⟩ | ⟨q, i, st', rfl, hq, hin, rfl⟩⟩ := h
    · exact ⟨ls, ⟨rfl, (Or.inl ⟨a, i, st', n, rfl, ha, hin, rfl⟩)⟩, hx⟩
    · exact ⟨ls, ⟨rfl, (Or.inr ⟨q, i, st', rfl, hq, hin, rfl⟩)⟩, hx⟩
  · obtain ⟨rfl, a, i, st', k, n, rfl, ha, h1, h2, hin, rfl⟩ := h
    · exact ⟨ls, ⟨rfl, a, i, st', k, n, rfl, ha, h1, h2, hin, rfl⟩, hx⟩
  · obtain ⟨rfl, a, i, x, st', n, rfl, ha, hin, rfl⟩ := h
    · exact ⟨ls, ⟨rfl, a, i, x, st', n, rfl, ha, hin, rfl⟩, hx⟩
  · obtain ⟨rfl, a, i, x, st', n, rfl, ha, hin, rfl⟩ := h
    · exact ⟨ls, ⟨rfl, a, i, x, st', n, rfl, ha, hin, rfl⟩, hx⟩
  · obtain ⟨rfl, a, i, b, st', k, n, nb, rfl, ha, h1, h2, hin, hbb, rfl⟩ := h
    · exact ⟨ls, ⟨rfl, a, i, b, st', k, n, nb, rfl, ha, h1, h2, hin, hbb, rfl⟩, hx⟩
  · obtain ⟨rfl, x, st', k, n, rfl, h1, h2, h3, h4, h5, h6, rfl⟩ := h
    · exact ⟨ls, ⟨rfl, x, st', k, n, rfl, h1, h2, h3, h4, h5, h6, rfl⟩, hx⟩
  · obtain ⟨rfl, x, st', k, n, q, rfl, h1, h2, h3, h4, h5, h6, h7, h8, rfl⟩ := h
    · exact ⟨ls, ⟨rfl, x, st', k, n, q, rfl, h1, h2, h3, h4, h5, h6, h7, h8, rfl⟩, hx⟩
  · obtain ⟨rfl, k, C, T, N, h1, h2, h3, h4, h5, rfl⟩ := h
    · exact ⟨ls, ⟨rfl, k, C, T, N, h1, h2, h3, h4, h5, rfl⟩, hx⟩
  · obtain ⟨rfl, μ', vs, a, st', r, σ1, rfl, h1, h2, h3, h4, h5, h6, h7, rfl⟩ := h
    · exact ⟨ls, ⟨rfl, μ', vs, a, st', r, σ1, rfl, h1, h2, h3, h4, h5, h6, h7, rfl⟩, hx⟩
  · obtain ⟨rfl, ⟨μ', vs, st', r, σ1, rfl, h1, h2, h3, h4, h5, rfl⟩ | ⟨a0, a1, sp, dp, x, st', n0, n1, rfl, h0, h1, h2, h3, h4, h5, h6, h7, h8, h9, h10, h11, rfl⟩ | ⟨x, y, st', rfl, h1, h2, ⟨h3, h4, h5, rfl⟩ | ⟨h3, h4, h5, rfl⟩⟩⟩ := h
    · exact ⟨ls, ⟨rfl, (Or.inl ⟨μ', vs, st', r, σ1, rfl, h1, h2, h3, h4, h5, rfl⟩)⟩, hx⟩
    · exact ⟨ls, ⟨rfl, (Or.inr (Or.inl ⟨a0, a1, sp, dp, x, st', n0, n1, rfl, h0, h1, h2, h3, h4, h5, h6, h7, h8, h9, h10, h11, rfl⟩))⟩, hx⟩
    · exact ⟨ls, ⟨rfl, (Or.inr (Or.inr ⟨x, y, st', rfl, h1, h2, (Or.inl ⟨h3, h4, h5, rfl⟩)⟩))⟩, hx⟩
    · exact ⟨ls, ⟨rfl, (Or.inr (Or.inr ⟨x, y, st', rfl, h1, h2, (Or.inr ⟨h3, h4, h5, rfl⟩)⟩))⟩, hx⟩
  · obtain ⟨rfl, ⟨a, st', rfl, h0, h1, h2, h3, h4, rfl⟩ | ⟨μ', vs, a, st', σ1, rfl, h0, h1, h2, h3, h4, h5, h6, h7, rfl⟩⟩ := h
    · exact ⟨ls, ⟨rfl, (Or.inl ⟨a, st', rfl, h0, h1, h2, h3, h4, rfl⟩)⟩, hx⟩
    · exact ⟨ls, ⟨rfl, (Or.inr ⟨μ', vs, a, st', σ1, rfl, h0, h1, h2, h3, h4, h5, h6, h7, rfl⟩)⟩, hx⟩
  · exact h.elim
theorem path_mono (hc : ∀ μ' vs σ r σ1, call μ' vs σ r σ1 → call' μ' vs σ r σ1) (n : Nat) : ∀ c0 c1, Path (One call μ) n c0 c1 → Path (One call' μ) n c0 c1 := by
  induction n with
  | zero => intro c0 c1 h; exact h
  | succ n ih =>
    intro c0 c1 h
    obtain ⟨c2, ⟨ins, len, hd, h1⟩, h2⟩ := h
    exact ⟨c2, ⟨ins, len, hd, OneI_mono hc h1⟩, ih c2 c1 h2⟩
theorem Call_succ (d : Nat) : ∀ μ vs σ r σ1, Call d μ vs σ r σ1 → Call (d + 1) μ vs σ r σ1 := by
  induction d with
  | zero => intro μ vs σ r σ1 h; exact h.elim
  | succ d ih =>
    intro μ vs σ r σ1 h
    obtain ⟨h1, h2, n, c1, hp, hf⟩ := h
    exact ⟨h1, h2, n, c1, path_mono ih n _ _ hp, hf⟩
theorem Call_mono {d d' : Nat} (h : d ≤ d') {μ : MI} {vs : List Value} {σ : Sm} {r : Option Value} {σ1 : Sm} (hc : Call d μ vs σ r σ1) : Call d' μ vs σ r σ1 := by
  obtain ⟨k, rfl⟩ := Nat.le.dest h
  induction k with
  | zero => exact hc
  | succ k ih => exact Call_succ _ _ _ _ _ _ (ih (Nat.le_add_right _ _))
theorem path_ext (n : Nat) : ∀ (c0 c1 : Cf) (ls : Lo), Ext c0.2.1 ls → Path (One call μ) n c0 c1 → ∃ ls1, Path (One call μ) n (c0.1, ls, c0.2.2) (c1.1, ls1, c1.2.2) := by
  induction n with
  | zero => intro c0 c1 ls hx h; cases h; exact ⟨ls, rfl⟩
  | succ n ih =>
    intro c0 c1 ls hx h
    obtain ⟨c2, ⟨ins, len, hd, h1⟩, h2⟩ := h
    obtain ⟨ls2, h3, hx2⟩ := OneI_ext hx h1
    obtain ⟨ls3, h4⟩ := ih c2 c1 ls2 hx2 h2
    exact ⟨ls3, (c2.1, ls2, c2.2.2), ⟨ins, len, hd, h3⟩, h4⟩
theorem To_ext (ls' : Lo) (hx : Ext ls' ls) (h : To call μ (pc, ls', st, S, m) r σ') : To call μ (pc, ls, st, S, m) r σ' := by
  obtain ⟨n, c1, hp, hf⟩ := h
  obtain ⟨ls1, hp1⟩ := path_ext n _ c1 ls hx hp
  exact ⟨n, _, hp1, hf⟩
theorem To_step {c : Cf} (h : One call μ c c') (k : To call μ c' r σ') : To call μ c r σ' := by
  obtain ⟨n, c1, hp, hf⟩ := k
  exact ⟨n + 1, c1, ⟨c', h, hp⟩, hf⟩
theorem To_fin {c : Cf} (h : Fin' μ c r σ') : To call μ c r σ' := ⟨0, c, rfl, h⟩
end RULES
