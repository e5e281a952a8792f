/-! The state of both, tied to two tables: r (the fan as told), s (the painting). -/
def scr (a j : Nat) : Bool := (a == 0 && j == 16) || (88 ≤ a && a ≤ 93) || (96 ≤ a && a ≤ 131) || (a == 138 && (j == 0 || j == 11 || j == 25 || j == 26 || j == 31)) || (147 ≤ a && a ≤ 157)
/-- nothing but rows that are used anew has changed -/
def Ag (m m' : Me) : Prop := (∀ a j, scr a j = false → m'.1 a j = m.1 a j) ∧ ∀ a j, a ≠ 98 → m'.2 a j = m.2 a j
theorem Ag.rf (m : Me) : Ag m m := ⟨fun _ _ _ => rfl, fun _ _ _ => rfl⟩
theorem Ag.tr {m m' m'' : Me} (h : Ag m m') (h' : Ag m' m'') : Ag m m'' := ⟨fun a j e => (h'.1 a j e).trans (h.1 a j e), fun a j e => (h'.2 a j e).trans (h.2 a j e)⟩
theorem Ag.set {m m' : Me} (h : Ag m m') {a j : Nat} (x : Int32) (hs : scr a j = true) : Ag m (setI m' a j x) := ⟨fun b k e => by
  rw [sI_1]
  by_cases hb : b = a ∧ k = j
  · rw [hb.1, hb.2, hs] at e; cases e
  · rw [if_neg hb]; exact h.1 b k e, h.2⟩
theorem Ag.wl {m m' : Me} (h : Ag m m') {a p : Nat} (l : List Nat) (hs : ∀ j, scr a j = true) : Ag m (wl m' a p l) := ⟨fun b k e => by
  by_cases hb : b = a
  · rw [hb, hs k] at e; cases e
  · rw [wl_na hb]; exact h.1 b k e, h.2⟩
theorem Ag.row {m m' : Me} (h : Ag m m') {a : Nat} (C LT : List Nat) (h0 : ∀ j, scr a j = true) (h1 : ∀ j, scr (a + 1) j = true) (h2 : ∀ j, scr (a + 2) j = true) : Ag m (rowM m' a C LT) := ((h.wl C h1).wl LT h2).set _ (h0 2)
theorem Ag.rr {m m' : Me} (h : Ag m m') : rr m' 0 3 = rr m 0 3 ∧ rr m' 1 2 = rr m 1 2 := by
  unfold Jvm.Pilot.CFanPartsLaw_law_r1864_615eae.rr
  rw [h.2 0 3 (by decide), h.2 1 2 (by decide)]
  exact ⟨rfl, rfl⟩
theorem scr_lo {a j : Nat} (h1 : 1 ≤ a) (h2 : a ≤ 87) : scr a j = false := by
  unfold scr
  simp only [Bool.or_eq_false_iff, Bool.and_eq_false_iff, beq_eq_false_iff_ne, decide_eq_false_iff_not]
  omega
theorem scr_hi {a j : Nat} (h1 : 139 ≤ a) (h2 : a ≤ 146) : scr a j = false := by
  unfold scr
  simp only [Bool.or_eq_false_iff, Bool.and_eq_false_iff, beq_eq_false_iff_ne, decide_eq_false_iff_not]
  omega
/-- a fan as told, in order -/
def OKr (r : Nat → Nat) : Prop := z_fan r ∧ (∀ k, k < 186 → r k < 1000) ∧ r 2 ≤ 99 ∧ r 5 ≤ 6 ∧ r 6 ≤ 4 ∧ r 7 ≤ 6 ∧ r 8 ≤ 6
  ∧ (∀ w, w < r 5 → 1 ≤ r (10 + w) ∧ r (10 + w) ≤ 8 ∧ ∀ k, k < r (10 + w) → r (16 + 8 * w + k) ≤ 25)
  ∧ (∀ i, i < r 6 → 1 ≤ r (64 + i) ∧ r (64 + i) ≤ 8 ∧ r (100 + i) ≤ 1 ∧ r (104 + i) ≤ z_mo r ∧ ∀ k, k < r (64 + i) → r (68 + 8 * i + k) ≤ 25)
  ∧ (∀ q, q < r 7 → 1 ≤ r (126 + q) ∧ r (126 + q) ≤ 8 ∧ r (108 + q) ≤ 1 ∧ r (114 + q) ≤ z_mo r ∧ r (120 + q) + r (126 + q) ≤ (z_show r (r (108 + q)) (r (114 + q)) 0).length ∧ ∀ k, k < r (126 + q) → r (132 + 8 * q + k) ≤ 25)
  ∧ (∀ b, b < r 8 → r (180 + b) ≤ z_mo r)
  ∧ (∀ v w, v < r 5 → w < r 5 → z_w r (16 + 8 * v) (r (10 + v)) = z_w r (16 + 8 * w) (r (10 + w)) → v = w)
/-- a painting, in order -/
def OKs (r s : Nat → Nat) : Prop := (∀ k, k < 60 → s k ≤ 25) ∧ s 60 < 2 ^ r 0 ∧ s 61 ≤ z_mo r ∧ ∀ side k, side ≤ 1 → k < 30 → ¬ (k / 3 < r 0 ∧ k % 3 < r 1) → s (30 * side + k) = 25
def z_word (r : Nat → Nat) (w : Nat) : List Nat := z_w r (16 + 8 * w) (r (10 + w))
def z_wish (r : Nat → Nat) (i : Nat) : List Nat := z_w r (68 + 8 * i) (r (64 + i))
def z_seen (r : Nat → Nat) (q : Nat) : List Nat := z_w r (132 + 8 * q) (r (126 + q))
/-- the class's fan t holds what r tells -/
def CT (m : Me) (t : Nat) (r : Nat → Nat) : Prop := CF m t r ∧ (m.1 t 2 = nI (r 2) ∧ m.1 t 7 = nI (r 5) ∧ m.1 t 9 = nI (r 6) ∧ m.1 t 11 = nI (r 7) ∧ m.1 t 13 = nI (r 8))
  ∧ (∀ w, w < r 5 → SY m (t + 7 + 2 * w) (z_word r w))
  ∧ (∀ i, i < r 6 → SY m (t + 19 + 2 * i) (z_wish r i) ∧ m.1 (t + 19 + 2 * i) 2 = nI (r (100 + i)) ∧ m.1 (t + 19 + 2 * i) 3 = nI (r (104 + i)))
  ∧ (∀ q, q < r 7 → SY m (t + 27 + 2 * q) (z_seen r q) ∧ m.1 (t + 27 + 2 * q) 2 = nI (r (108 + q)) ∧ m.1 (t + 27 + 2 * q) 3 = nI (r (114 + q)) ∧ m.1 (t + 27 + 2 * q) 4 = nI (r (120 + q)))
  ∧ (∀ b, b < r 8 → m.1 (t + 6) b = nI (r (180 + b)))
/-- a painting object p of the class holds s -/
def CPs (m : Me) (p : Nat) (r s : Nat → Nat) : Prop := CP m p r s ∧ m.1 p 1 = nI (s 60) ∧ m.1 p 2 = nI (s 61) ∧ ∀ k, k < 60 → (¬ ∃ side rib c, side ≤ 1 ∧ rib < r 0 ∧ c < r 1 ∧ k = side * 30 + (r 1 * rib + c)) → m.1 (p + 1) k = 25
def HB (H : Bool) : Nat := if H then 1 else 0
def JC (m : Me) (H : Bool) (r s : Nat → Nat) : Prop := m.1 0 4 = nI (HB H) ∧ (H = true → CT m (rr m 0 3) r ∧ CPs m 81 r s)
def JM (m : Me) (H : Bool) (r s : Nat → Nat) : Prop := m.1 138 14 = nI (HB H) ∧ (H = true → MR m 141 r ∧ MS m s)
def JO (H : Bool) (r s : Nat → Nat) : Prop := H = true → OKr r ∧ OKs r s
theorem SY.ag {m m' : Me} {a : Nat} {w : List Nat} (h : SY m a w) (hA : Ag m m') (h1 : 1 ≤ a) (h2 : a ≤ 86) : SY m' a w := ⟨(hA.1 _ _ (scr_lo h1 (by omega))).trans h.1, fun k hk => (hA.1 _ _ (scr_lo (by omega) (by omega))).trans (h.2 k hk)⟩
theorem JC.ag {m m' : Me} {H : Bool} {r s : Nat → Nat} (h : JC m H r s) (hO : JO H r s) (hk : kd (rr m 0 3) = 2) (hA : Ag m m') : JC m' H r s := by
  refine ⟨(hA.1 0 4 (by decide)).trans h.1, fun e => ?_⟩
  obtain ⟨⟨⟨c0, c1, c3⟩, ⟨d2, d7, d9, d11, d13⟩, hw, hi, hq, hb⟩, hp, p1, p2, p3⟩ := h.2 e
  obtain ⟨ho, -⟩ := hO e
  have h5 := ho.2.2.2.1
  have h6 := ho.2.2.2.2.1
  have h7 := ho.2.2.2.2.2.1
  have ht := kd2_two hk
  rw [hA.rr.1]
  generalize rr m 0 3 = t at *
  have a1 : ∀ d j, d ≤ 38 → m'.1 (t + d) j = m.1 (t + d) j := fun d j hd => hA.1 _ _ (scr_lo (by omega) (by omega))
  have a0 : ∀ j, m'.1 t j = m.1 t j := fun j => a1 0 j (by omega)
  have a8 : ∀ a j, 1 ≤ a → a ≤ 87 → m'.1 a j = m.1 a j := fun a j x y => hA.1 _ _ (scr_lo x y)
  refine ⟨⟨⟨(a0 0).trans c0, (a0 1).trans c1, (a0 3).trans c3⟩, ⟨(a0 2).trans d2, (a0 7).trans d7, (a0 9).trans d9, (a0 11).trans d11, (a0 13).trans d13⟩, fun w x => (hw w x).ag hA (by omega) (by omega), fun i x => ?_, fun q x => ?_, fun b x => (a1 6 b (by omega)).trans (hb b x)⟩, fun side rib c x y z => (a8 82 _ (by omega) (by omega)).trans (hp side rib c x y z), (a8 81 1 (by omega) (by omega)).trans p1, (a8 81 2 (by omega) (by omega)).trans p2, fun k x y => (a8 82 _ (by omega) (by omega)).trans (p3 k x y)⟩
  · obtain ⟨q1, q2, q3⟩ := hi i x
    exact ⟨q1.ag hA (by omega) (by omega), (a8 _ _ (by omega) (by omega)).trans q2, (a8 _ _ (by omega) (by omega)).trans q3⟩
  · obtain ⟨q1, q2, q3, q4⟩ := hq q x
    exact ⟨q1.ag hA (by omega) (by omega), (a8 _ _ (by omega) (by omega)).trans q2, (a8 _ _ (by omega) (by omega)).trans q3, (a8 _ _ (by omega) (by omega)).trans q4⟩
theorem JM.ag {m m' : Me} {H : Bool} {r s : Nat → Nat} (h : JM m H r s) (hA : Ag m m') : JM m' H r s := ⟨(hA.1 138 14 (by decide)).trans h.1, fun e => ⟨fun k hk => (hA.1 _ _ (scr_hi (by decide) (by decide))).trans ((h.2 e).1 k hk), fun k hk => (hA.1 _ _ (scr_hi (by decide) (by decide))).trans ((h.2 e).2 k hk)⟩⟩
theorem rf_98 : ∀ q ∈ RF, q.1 ≠ 98 := by decide +kernel
theorem Inv.ag {m m' : Me} (h : Inv m) (hA : Ag m m') (h98 : ∀ i, i < 4 → ∃ t, m'.2 98 i = some t ∧ kd t = 8) : Inv m' := by
  refine ⟨fun q hq => (hA.2 _ _ (rf_98 q hq)).trans (h.1 q hq), ?_, ?_, h98⟩
  · obtain ⟨t, h1, h2⟩ := h.2.1
    exact ⟨t, (hA.2 0 3 (by decide)).trans h1, h2⟩
  · obtain ⟨t, h1, h2⟩ := h.2.2.1
    exact ⟨t, (hA.2 1 2 (by decide)).trans h1, h2⟩
/-! what may be asked for -/
def vN (H : Bool) (n : Nat) (x : Int32) : Bool := H && decide (0 ≤ x ∧ x < nI n)
def vO (r : Nat → Nat) (x : Int32) : Bool := decide (0 ≤ x ∧ x ≤ nI (z_mo r))
def vw (H : Bool) (r : Nat → Nat) (x1 x2 : Int32) : Nat := if vN H 2 x1 then (if vO r x2 then 0 else 2) else 1
theorem vN_out {H : Bool} {n : Nat} {x : Int32} (hn : n < 1000) (h : vN H n x = true) : H = true ∧ ∃ k, k < n ∧ x = nI k := by
  unfold vN at h
  rw [Bool.and_eq_true, decide_eq_true_eq] at h
  obtain ⟨h1, h2, h3⟩ := h
  refine ⟨h1, ?_⟩
  obtain ⟨k, hk, rfl⟩ := nI_of (Int32.not_lt.mpr h2)
  exact ⟨k, (nI_ltI hk (by omega)).mp h3, rfl⟩
theorem vO_out {r : Nat → Nat} (hm : z_mo r ≤ 27) {x : Int32} (h : vO r x = true) : ∃ k, k ≤ z_mo r ∧ x = nI k := by
  unfold vO at h
  rw [decide_eq_true_eq] at h
  obtain ⟨k, hk, rfl⟩ := nI_of (Int32.not_lt.mpr h.1)
  exact ⟨k, (nI_leI hk (by omega)).mp h.2, rfl⟩
theorem vw_out {H : Bool} {r : Nat → Nat} {x1 x2 : Int32} (hf : H = true → z_fan r) (h : vw H r x1 x2 = 0) : H = true ∧ ∃ side op, side ≤ 1 ∧ op ≤ z_mo r ∧ x1 = nI side ∧ x2 = nI op := by
  unfold vw at h
  by_cases h1 : vN H 2 x1 = true
  · rw [if_pos h1] at h
    by_cases h2 : vO r x2 = true
    · obtain ⟨e, k, hk, rfl⟩ := vN_out (by decide) h1
      obtain ⟨o, ho, rfl⟩ := vO_out (z_mo_le (hf e)) h2
      exact ⟨e, k, o, by omega, ho, rfl, rfl⟩
    · rw [if_neg h2] at h; cases h
  · rw [if_neg h1] at h; cases h
theorem vw_le (H : Bool) (r : Nat → Nat) (x1 x2 : Int32) : vw H r x1 x2 ≤ 2 := by
  unfold vw
  split
  · split <;> omega
  · omega
theorem i_le_pred {x : Int32} {n : Nat} (hn : n < 1000) (h0 : 0 ≤ x) : x ≤ nI n - 1 ↔ x < nI n := by
  obtain ⟨k, hk, rfl⟩ := nI_of (Int32.not_lt.mpr h0)
  by_cases h : n = 0
  · subst h
    constructor
    · intro q
      exact absurd q (Int32.not_le.mpr (Int32.lt_of_lt_of_le (show nI 0 - 1 < 0 by decide) h0))
    · intro q
      exact absurd q (Int32.not_lt.mpr h0)
  · rw [z_sub1 (by omega), nI_leI hk (by omega), nI_ltI hk (by omega)]
    omega
theorem i_lt_succ {x : Int32} {n : Nat} (hn : n < 1000) (h0 : 0 ≤ x) : x < nI (n + 1) ↔ x ≤ nI n := by
  obtain ⟨k, hk, rfl⟩ := nI_of (Int32.not_lt.mpr h0)
  rw [nI_leI hk (by omega), nI_ltI hk (by omega)]
  omega
theorem within_e (x l h : Int32) (m : Me) : fX11_within x l h m = some (if l ≤ x ∧ x ≤ h then 1 else 0, m) := by
  unfold fX11_within fX11_within_14 fX11_within_15
  by_cases h1 : x < l
  · rw [if_pos h1, if_neg (fun q => absurd q.1 (Int32.not_le.mpr h1)), ck_pos (Or.inl rfl)]
  · by_cases h2 : h < x
    · rw [if_neg h1, if_pos h2, if_neg (fun q => absurd q.2 (Int32.not_le.mpr h2)), ck_pos (Or.inl rfl)]
    · rw [if_neg h1, if_neg h2, if_pos ⟨Int32.not_lt.mp h1, Int32.not_lt.mp h2⟩, ck_pos (Or.inr rfl)]
theorem HB_0 {H : Bool} : nI (HB H) = 0 ↔ H = false := by cases H <;> decide
/-- the four ways in which the reference asks whether there is such a one -/
theorem is_e {m : Me} {H : Bool} {n : Nat} {x b : Int32} (hH : m.1 138 14 = nI (HB H)) (hn : n < 1000) (hb : b = nI n - 1) {F : Option (Int32 × Me)} (hF : F = (if (m.1 138 14) = (0 : Int32) then ck ((0 : Int32) = 0 ∨ (0 : Int32) = 1) (some ((0 : Int32), m)) else cl2 (fX11_within x 0 b m) fun r4 m5 => if r4 = (0 : Int32) then ck ((0 : Int32) = 0 ∨ (0 : Int32) = 1) (some ((0 : Int32), m5)) else ck ((1 : Int32) = 0 ∨ (1 : Int32) = 1) (some ((1 : Int32), m5)))) : F = some (nI (if vN H n x then 1 else 0), m) := by
  rw [hF, hH, hb]
  unfold vN
  cases H
  · rw [if_pos (show nI (HB false) = 0 by decide), ck_pos (Or.inl rfl)]
    rfl
  · rw [if_neg (show ¬ nI (HB true) = 0 by decide)]
    by_cases h0 : 0 ≤ x
    · by_cases h1 : x < nI n
      · have e : fX11_within x 0 (nI n - 1) m = some (1, m) := by rw [within_e, if_pos ⟨h0, (i_le_pred hn h0).mpr h1⟩]
        rw [cl2_e e, if_neg (show ¬ (1 : Int32) = 0 by decide), ck_pos (Or.inr rfl), decide_eq_true ⟨h0, h1⟩]
        rfl
      · have e : fX11_within x 0 (nI n - 1) m = some (0, m) := by rw [within_e, if_neg (fun q => h1 ((i_le_pred hn h0).mp q.2))]
        rw [cl2_e e, if_pos rfl, ck_pos (Or.inl rfl), decide_eq_false (fun q => h1 q.2)]
        rfl
    · have e : fX11_within x 0 (nI n - 1) m = some (0, m) := by rw [within_e, if_neg (fun q => h0 q.1)]
      rw [cl2_e e, if_pos rfl, ck_pos (Or.inl rfl), decide_eq_false (fun q => h0 q.1)]
      rfl
/-- and the class -/
theorem no_e {m : Me} {H : Bool} {n : Nat} {x : Int32} (hH : m.1 0 4 = nI (HB H)) (B : Int32) (hB : H = true → B = nI n) : (if (m.1 0 4) = (0 : Int32) then ck ((1 : Int32) = 0 ∨ (1 : Int32) = 1) (some ((1 : Int32), m)) else if x < (0 : Int32) then ck ((1 : Int32) = 0 ∨ (1 : Int32) = 1) (some ((1 : Int32), m)) else if x < B then ck ((0 : Int32) = 0 ∨ (0 : Int32) = 1) (some ((0 : Int32), m)) else ck ((1 : Int32) = 0 ∨ (1 : Int32) = 1) (some ((1 : Int32), m))) = some (nI (if vN H n x then 0 else 1), m) := by
  rw [hH]
  unfold vN
  cases H
  · rw [if_pos (show nI (HB false) = 0 by decide), ck_pos (Or.inr rfl)]
    rfl
  · rw [if_neg (show ¬ nI (HB true) = 0 by decide), hB rfl]
    by_cases h0 : x < 0
    · rw [if_pos h0, ck_pos (Or.inr rfl), decide_eq_false (fun q => absurd q.1 (Int32.not_le.mpr h0))]
      rfl
    · by_cases h1 : x < nI n
      · rw [if_neg h0, if_pos h1, ck_pos (Or.inl rfl), decide_eq_true ⟨Int32.not_lt.mp h0, h1⟩]
        rfl
      · rw [if_neg h0, if_neg h1, ck_pos (Or.inr rfl), decide_eq_false (fun q => h1 q.2)]
        rfl
