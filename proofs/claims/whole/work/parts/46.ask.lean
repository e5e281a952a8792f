/-! What may be asked for, both sides. -/
section ASK
variable {m : Me} {H : Bool} {r s : Nat → Nat} {x x1 x2 x3 : Int32}
theorem JO.fan (h : JO H r s) : H = true → z_fan r := fun e => (h e).1.1
/-- one that is false does not ask the numbers -/
theorem is_f (hH : m.1 138 14 = nI (HB false)) {n : Nat} {F : Option (Int32 × Me)} {G : Option (Int32 × Me)} (hF : F = (if (m.1 138 14) = (0 : Int32) then ck ((0 : Int32) = 0 ∨ (0 : Int32) = 1) (some ((0 : Int32), m)) else G)) : F = some (nI (if vN false n x then 1 else 0), m) := by
  rw [hF, hH, if_pos (show nI (HB false) = 0 by decide), ck_pos (Or.inl rfl)]
  rfl
theorem fX11_isSide_e (h : JM m H r s) : fX11_isSide x m = some (nI (if vN H 2 x then 1 else 0), m) := is_e (b := 1) h.1 (by decide) (by decide) (by unfold fX11_isSide fX11_isSide_20 fX11_isSide_21; rfl)
theorem fX11_isRib_e (h : JM m H r s) (hO : JO H r s) : fX11_isRib x m = some (nI (if vN H (r 0) x then 1 else 0), m) := by
  cases H
  · exact is_f h.1 (by unfold fX11_isRib fX11_isRib_27 fX11_isRib_28; rfl)
  · exact is_e (b := m.1 141 0 - 1) h.1 ((hO rfl).1.2.1 0 (by decide)) (by rw [(h.2 rfl).1 0 (by decide)]) (by unfold fX11_isRib fX11_isRib_27 fX11_isRib_28; rfl)
theorem fX11_isWordThere_e (h : JM m H r s) (hO : JO H r s) : fX11_isWordThere x m = some (nI (if vN H (r 5) x then 1 else 0), m) := by
  cases H
  · exact is_f h.1 (by unfold fX11_isWordThere fX11_isWordThere_27 fX11_isWordThere_28; rfl)
  · exact is_e (b := m.1 141 5 - 1) h.1 ((hO rfl).1.2.1 5 (by decide)) (by rw [(h.2 rfl).1 5 (by decide)]) (by unfold fX11_isWordThere fX11_isWordThere_27 fX11_isWordThere_28; rfl)
theorem fX11_isWish_e (h : JM m H r s) (hO : JO H r s) : fX11_isWish x m = some (nI (if vN H (r 6) x then 1 else 0), m) := by
  cases H
  · exact is_f h.1 (by unfold fX11_isWish fX11_isWish_28 fX11_isWish_29; rfl)
  · exact is_e (b := m.1 141 6 - 1) h.1 ((hO rfl).1.2.1 6 (by decide)) (by rw [(h.2 rfl).1 6 (by decide)]) (by unfold fX11_isWish fX11_isWish_28 fX11_isWish_29; rfl)
theorem fX11_isOpening_e (h : JM m true r s) (hO : JO true r s) : fX11_isOpening x m = some (nI (if vO r x then 1 else 0), m) := by
  unfold fX11_isOpening
  have hf := hO.fan rfl
  rw [cl2_e (fX11_mostOpen_e (Or.inl rfl) (h.2 rfl).1 ⟨hf.2.2.2.1, hf.2.1, by have := hf.1; omega, hf.2.2.2.2⟩)]
  unfold vO
  by_cases hc : 0 ≤ x ∧ x ≤ nI (z_mo r)
  · have e : fX11_within x 0 (nI (z_mo r)) m = some (1, m) := by rw [within_e, if_pos hc]
    rw [cl2_e e, ck_pos (Or.inr rfl), decide_eq_true hc]
    rfl
  · have e : fX11_within x 0 (nI (z_mo r)) m = some (0, m) := by rw [within_e, if_neg hc]
    rw [cl2_e e, ck_pos (Or.inl rfl), decide_eq_false hc]
    rfl
theorem vN_H {n : Nat} (h : vN H n x = true) : H = true := by
  unfold vN at h
  rw [Bool.and_eq_true] at h
  exact h.1
theorem fX11_openWhy_e (h : JM m H r s) (hO : JO H r s) : fX11_openWhy x1 x2 m = some (nI (vw H r x1 x2), m) := by
  unfold fX11_openWhy fX11_openWhy_25
  rw [cl2_e (fX11_isSide_e h)]
  unfold vw
  cases h1 : vN H 2 x1
  · rfl
  · have hH := vN_H h1
    subst hH
    simp only [if_true]
    rw [if_neg (show ¬ nI 1 = 0 by decide), cl2_e (fX11_isOpening_e h hO)]
    cases vO r x2 <;> rfl
/-- of a word, a side, an opening -/
def vr (H : Bool) (r : Nat → Nat) (x1 x2 x3 : Int32) : Nat := if vN H (r 5) x1 then vw H r x2 x3 else 1
theorem fX11_wordWhy_e (h : JM m H r s) (hO : JO H r s) : fX11_wordWhy x1 x2 x3 m = some (nI (vr H r x1 x2 x3), m) := by
  unfold fX11_wordWhy fX11_wordWhy_16 fX11_wordWhy_33
  rw [cl2_e (fX11_isWordThere_e h hO)]
  unfold vr vw
  cases h1 : vN H (r 5) x1
  · rfl
  · have hH := vN_H h1
    subst hH
    simp only [if_true]
    rw [if_neg (show ¬ nI 1 = 0 by decide), cl2_e (fX11_isSide_e h)]
    cases h2 : vN true 2 x2
    · rfl
    · simp only [if_true]
      rw [if_neg (show ¬ nI 1 = 0 by decide), cl2_e (fX11_isOpening_e h hO)]
      cases vO r x3 <;> rfl
/-- of a cell -/
def vc (H : Bool) (r : Nat → Nat) (x1 x2 x3 : Int32) : Bool := vN H 2 x1 && (vN H (r 0) x2 && vN H (r 1) x3)
theorem fX11_isCell_e (h : JM m H r s) (hO : JO H r s) : fX11_isCell x1 x2 x3 m = some (nI (if vc H r x1 x2 x3 then 1 else 0), m) := by
  unfold fX11_isCell fX11_isCell_36 fX11_isCell_37
  rw [cl2_e (fX11_isSide_e h)]
  unfold vc
  cases h1 : vN H 2 x1
  · rfl
  · have hH := vN_H h1
    subst hH
    simp only [if_true, Bool.true_and]
    rw [if_neg (show ¬ nI 1 = 0 by decide), cl2_e (fX11_isRib_e h hO)]
    cases h2 : vN true (r 0) x2
    · rfl
    · simp only [if_true, Bool.true_and]
      rw [if_neg (show ¬ nI 1 = 0 by decide), (h.2 rfl).1 1 (by decide)]
      have hn := (hO rfl).1.2.1 1 (by decide)
      unfold vN
      by_cases h0 : 0 ≤ x3
      · by_cases h3 : x3 < nI (r 1)
        · have e : fX11_within x3 0 (nI (r 1) - 1) m = some (1, m) := by rw [within_e, if_pos ⟨h0, (i_le_pred hn h0).mpr h3⟩]
          rw [cl2_e e, if_neg (show ¬ (1 : Int32) = 0 by decide), ck_pos (Or.inr trivial), decide_eq_true ⟨h0, h3⟩]
          rfl
        · have e : fX11_within x3 0 (nI (r 1) - 1) m = some (0, m) := by rw [within_e, if_neg (fun q => h3 ((i_le_pred hn h0).mp q.2))]
          rw [cl2_e e, if_pos rfl, ck_pos (Or.inl trivial), decide_eq_false (fun q => h3 q.2)]
          rfl
      · have e : fX11_within x3 0 (nI (r 1) - 1) m = some (0, m) := by rw [within_e, if_neg (fun q => h0 q.1)]
        rw [cl2_e e, if_pos rfl, ck_pos (Or.inl trivial), decide_eq_false (fun q => h0 q.1)]
        rfl
/-! the class -/
theorem fX10_noSide_e (h : JC m H r s) : fX10_noSide x m = some (nI (if vN H 2 x then 0 else 1), m) := by
  have := no_e (n := 2) (x := x) h.1 2 (fun _ => rfl)
  unfold fX10_noSide fX10_noSide_16 fX10_noSide_21
  rw [← this]
  by_cases h0 : x < 0
  · simp only [if_pos h0]
  · have e : x ≤ 1 ↔ x < 2 := (i_lt_succ (n := 1) (by decide) (Int32.not_lt.mp h0)).symm
    simp only [if_neg h0]
    by_cases h1 : x ≤ 1
    · rw [if_pos h1, if_pos (e.mp h1)]
    · rw [if_neg h1, if_neg (fun q => h1 (e.mpr q))]
theorem fX10_noRib_e (h : JC m H r s) : fX10_noRib x m = some (nI (if vN H (r 0) x then 0 else 1), m) := by
  unfold fX10_noRib fX10_noRib_22 fX10_noRib_27
  exact no_e h.1 _ (fun e => (h.2 e).1.1.1)
theorem fX10_noWord_e (h : JC m H r s) : fX10_noWord x m = some (nI (if vN H (r 5) x then 0 else 1), m) := by
  unfold fX10_noWord fX10_noWord_22 fX10_noWord_27
  exact no_e h.1 _ (fun e => (h.2 e).1.2.1.2.1)
theorem fX10_noWish_e (h : JC m H r s) : fX10_noWish x m = some (nI (if vN H (r 6) x then 0 else 1), m) := by
  unfold fX10_noWish fX10_noWish_22 fX10_noWish_27
  exact no_e h.1 _ (fun e => (h.2 e).1.2.1.2.2.1)
theorem fX10_noCell_e (h : JC m H r s) : fX10_noCell x1 x2 x3 m = some (nI (if vc H r x1 x2 x3 then 0 else 1), m) := by
  unfold fX10_noCell fX10_noCell_31 fX10_noCell_36
  rw [cl2_e (fX10_noSide_e h)]
  unfold vc
  cases h1 : vN H 2 x1
  · rfl
  · have hH := vN_H h1
    subst hH
    simp only [if_true, Bool.true_and]
    rw [if_pos (show nI 0 = 0 from rfl), cl2_e (fX10_noRib_e h)]
    cases h2 : vN true (r 0) x2
    · rfl
    · simp only [if_true, Bool.true_and]
      rw [if_pos (show nI 0 = 0 from rfl), (h.2 rfl).1.1.2.1]
      unfold vN
      by_cases h0 : x3 < 0
      · rw [if_pos h0, ck_pos (Or.inr trivial), decide_eq_false (fun q => absurd q.1 (Int32.not_le.mpr h0))]
        rfl
      · by_cases h3 : x3 < nI (r 1)
        · rw [if_neg h0, if_pos h3, ck_pos (Or.inl trivial), decide_eq_true ⟨Int32.not_lt.mp h0, h3⟩]
          rfl
        · rw [if_neg h0, if_neg h3, ck_pos (Or.inr trivial), decide_eq_false (fun q => h3 q.2)]
          rfl
theorem fX2_openings_e {t : Nat} (h : CF m t r) (hf : z_fan r) : fX2_openings t m = some (nI (z_mo r + 1), m) := by
  obtain ⟨e0, e1, e3⟩ := h
  unfold fX2_openings fX2_openings_25 z_mo
  rw [e3, e1, e0]
  have := hf.1
  have := hf.2.2.2.2
  by_cases h3 : r 3 = 1
  · rw [if_neg (by rw [h3]; decide), if_pos h3, z_sub1 (by omega), pk_mul, nI_1]
  · rw [if_pos (by rw [show r 3 = 0 by omega]; rfl), if_neg h3, nI_1]
theorem fX10_wrongView_e (h : JC m H r s) (hO : JO H r s) : fX10_wrongView x1 x2 m = some (nI (vw H r x1 x2), m) := by
  unfold fX10_wrongView fX10_wrongView_25 fX10_wrongView_30
  rw [cl2_e (fX10_noSide_e h)]
  unfold vw
  cases h1 : vN H 2 x1
  · rfl
  · have hH := vN_H h1
    subst hH
    simp only [if_true]
    have hf := hO.fan rfl
    have hm := z_mo_le hf
    rw [if_pos (show nI 0 = 0 from rfl), cl2_e (fX2_openings_e (h.2 rfl).1.1 hf)]
    unfold vO
    by_cases h0 : x2 < 0
    · rw [if_pos h0, decide_eq_false (fun q => absurd q.1 (Int32.not_le.mpr h0))]
      rfl
    · have e := i_lt_succ (x := x2) (n := z_mo r) (by omega) (Int32.not_lt.mp h0)
      by_cases h3 : x2 ≤ nI (z_mo r)
      · rw [if_neg h0, if_pos (e.mpr h3), decide_eq_true ⟨Int32.not_lt.mp h0, h3⟩]
        rfl
      · rw [if_neg h0, if_neg (fun q => h3 (e.mp q)), decide_eq_false (fun q => h3 q.2)]
        rfl
theorem fX10_wrongReading_e (h : JC m H r s) (hO : JO H r s) : fX10_wrongReading x1 x2 x3 m = some (nI (vr H r x1 x2 x3), m) := by
  unfold fX10_wrongReading fX10_wrongReading_18
  rw [cl2_e (fX10_noWord_e h)]
  unfold vr
  cases h1 : vN H (r 5) x1
  · rfl
  · simp only [if_true]
    rw [if_pos (show nI 0 = 0 from rfl), cl2_e (fX10_wrongView_e h hO)]
/-- beats -/
def vb (H : Bool) (r : Nat → Nat) : Nat := if H then (if r 8 = 0 then 6 else 0) else 1
theorem fX10_wrongBeats_e (h : JC m H r s) (hO : JO H r s) : fX10_wrongBeats m = some (nI (vb H r), m) := by
  unfold fX10_wrongBeats fX10_wrongBeats_25 vb
  rw [h.1]
  cases H
  · rfl
  · rw [if_neg (show ¬ nI (HB true) = 0 by decide), (h.2 rfl).1.2.1.2.2.2.2]
    have := (hO rfl).1.2.1 8 (by decide)
    by_cases h8 : r 8 = 0
    · rw [if_pos (by rw [h8]; rfl)]
      simp [h8]
      rfl
    · rw [if_neg (show ¬ nI (r 8) = 0 from fun z => h8 ((nI_lt1000 (b := 0) this (by decide)).mp z))]
      simp [h8]
      rfl
theorem fX11_beatWhy_e (h : JM m H r s) (hO : JO H r s) : fX11_beatWhy m = some (nI (vb H r), m) := by
  unfold fX11_beatWhy fX11_beatWhy_27 vb
  rw [h.1]
  cases H
  · rfl
  · rw [if_neg (show ¬ nI (HB true) = 0 by decide), (h.2 rfl).1 8 (by decide)]
    have := (hO rfl).1.2.1 8 (by decide)
    by_cases h8 : r 8 = 0
    · rw [if_pos (by rw [h8]; rfl)]
      simp [h8]
      rfl
    · rw [if_neg (show ¬ nI (r 8) = 0 from fun z => h8 ((nI_lt1000 (b := 0) this (by decide)).mp z))]
      simp [h8]
      rfl
end ASK
