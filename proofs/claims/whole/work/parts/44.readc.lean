/-! Words READ, by the class. -/
theorem nI_lt1000 {a b : Nat} (ha : a < 1000) (hb : b < 1000) : nI a = nI b ↔ a = b := nI_eq (by omega) (by omega)
theorem hb2 {m : Me} {a : Nat} {w : List Nat} (h : SY m a w) (hw : w.length ≤ 8) (hl : ∀ k, k < w.length → w.getD k 0 < 1000) : ∀ j k n, k + j = w.length → j < n → fX8_hasBare_2 n a (nI k) m = some (nI (if z_al (fun k => decide (w.getD k 0 ≠ 25)) k j then 0 else 1), m) := by
  intro j
  induction j with
  | zero =>
    intro k n hk hn
    obtain ⟨n, rfl⟩ : ∃ q, n = q + 1 := ⟨n - 1, by omega⟩
    unfold fX8_hasBare_2
    rw [h.1, if_pos (nI_le (by omega) (by omega))]
    rfl
  | succ j ih =>
    intro k n hk hn
    obtain ⟨n, rfl⟩ : ∃ q, n = q + 1 := ⟨n - 1, by omega⟩
    unfold fX8_hasBare_2
    have hin : inb (nI k) 8 := (z_inb (by omega)).mpr (by omega)
    rw [h.1, if_neg (nI_ge (by omega) (by omega)), ck_pos hin, nI_clamp (by omega), h.2 k (by omega), nI_1]
    show _ = some (nI (if (decide (w.getD k 0 ≠ 25) && z_al _ (k + 1) j) then 0 else 1), m)
    by_cases e : w.getD k 0 = 25
    · rw [if_pos (by rw [e]; rfl), decide_eq_false (fun z => z e), Bool.false_and]
      rfl
    · rw [if_neg (show ¬ nI (w.getD k 0) = 25 from fun z => e ((nI_lt1000 (b := 25) (hl k (by omega)) (by decide)).mp z)), ih (k + 1) n (by omega) (by omega), decide_eq_true e, Bool.true_and]
theorem fX8_hasBare_e {m : Me} {a : Nat} {w : List Nat} (h : SY m a w) (hw : w.length ≤ 8) (hl : ∀ k, k < w.length → w.getD k 0 < 1000) : fX8_hasBare a m = some (nI (if z_bare w then 1 else 0), m) := by
  unfold fX8_hasBare
  rw [show ((0 : Int32)) = nI 0 from rfl, hb2 h hw hl w.length 0 FU (by omega) (FU_pos (by omega))]
  unfold z_bare
  cases z_al (fun k => decide (w.getD k 0 ≠ 25)) 0 w.length <;> rfl
/-- the class's row holds these letters -/
def RLt (m : Me) (a : Nat) (LT : List Nat) : Prop := m.1 a 2 = nI LT.length ∧ ∀ k, k < LT.length → m.1 (a + 2) k = nI (LT.getD k 0)
theorem sa25 {m : Me} {a0 a1 : Nat} {w LT : List Nat} (h0 : RLt m a0 LT) (h1 : SY m a1 w) (hw : w.length ≤ 8) (hL : LT.length ≤ 30) (hl : ∀ k, k < w.length → w.getD k 0 < 1000) (hl2 : ∀ k, k < LT.length → LT.getD k 0 < 1000) {p : Nat} (hp : p + w.length ≤ LT.length) : ∀ j k q n, k + j = w.length → j < n → fX7_strangeAt_25 n a0 a1 (nI p) (nI q) (nI k) m = some (nI (q + z_ct (fun i => !z_g w LT p i) k j), m) := by
  intro j
  induction j with
  | zero =>
    intro k q n hk hn
    obtain ⟨n, rfl⟩ : ∃ z, n = z + 1 := ⟨n - 1, by omega⟩
    unfold fX7_strangeAt_25
    rw [h1.1, if_pos (nI_le (by omega) (by omega))]
    rfl
  | succ j ih =>
    intro k q n hk hn
    obtain ⟨n, rfl⟩ : ∃ z, n = z + 1 := ⟨n - 1, by omega⟩
    rw [fX7_strangeAt_25]
    have i1 : inb (nI (p + k)) 30 := (z_inb (by omega)).mpr (by omega)
    have i2 : inb (nI k) 8 := (z_inb (by omega)).mpr (by omega)
    rw [h1.1, if_neg (nI_ge (by omega) (by omega)), nI_add, ck_pos i1, ck_pos i2, nI_clamp (by omega), nI_clamp (by omega), h0.2 _ (by omega), h1.2 _ (by omega)]
    unfold fX7_strangeAt_56
    rw [nI_1, nI_1]
    show _ = some (nI (q + ((if (!z_g w LT p k) = true then 1 else 0) + z_ct _ (k + 1) j)), m)
    unfold z_g
    by_cases e : LT.getD (p + k) 0 = w.getD k 0
    · rw [if_pos (by rw [e]), ih (k + 1) q n (by omega) (by omega), decide_eq_true e]
      simp only [Bool.not_true, Bool.false_eq_true, if_false, Nat.zero_add]
      rfl
    · rw [if_neg (fun z => e ((nI_lt1000 (hl2 _ (by omega)) (hl _ (by omega))).mp z)), ih (k + 1) (q + 1) n (by omega) (by omega), decide_eq_false e]
      simp only [Bool.not_false, if_true]
      rw [Nat.add_assoc]
      rfl
theorem fX7_strangeAt_e {m : Me} {a0 a1 : Nat} {w LT : List Nat} (h0 : RLt m a0 LT) (h1 : SY m a1 w) (hw : w.length ≤ 8) (hL : LT.length ≤ 30) (hl : ∀ k, k < w.length → w.getD k 0 < 1000) (hl2 : ∀ k, k < LT.length → LT.getD k 0 < 1000) {p : Nat} (hp : p < 1000) : fX7_strangeAt a0 a1 (nI p) m = some (nI (if p + w.length ≤ LT.length then z_ct (fun i => !z_g w LT p i) 0 w.length else 9), m) := by
  unfold fX7_strangeAt fX7_strangeAt_17
  rw [if_neg (nI_pos (by omega)), h1.1, h0.1, nI_add]
  by_cases h : p + w.length ≤ LT.length
  · rw [if_pos (nI_le h (by omega)), if_pos h, show ((0 : Int32)) = nI 0 from rfl, sa25 h0 h1 hw hL hl hl2 h w.length 0 0 FU (by omega) (FU_pos (by omega)), Nat.zero_add]
  · rw [if_neg (nI_ge (by omega) (by omega)), if_neg h]
    rfl
theorem std_ct {w LT : List Nat} {p : Nat} (hb : z_bare w = false) (hp : p + w.length ≤ LT.length) : z_std w LT p = decide (z_ct (fun i => !z_g w LT p i) 0 w.length = 0) := by
  unfold z_std
  rw [hb, decide_eq_true hp, Bool.true_and, Bool.not_false, Bool.true_and]
  have := z_ct_al (z_g w LT p) w.length 0
  cases h : z_al (z_g w LT p) 0 w.length
  · rw [decide_eq_false (fun e => by rw [this.mp e] at h; cases h)]
  · rw [decide_eq_true (this.mpr h)]
theorem std_far {w LT : List Nat} {p : Nat} (hp : ¬ p + w.length ≤ LT.length) : z_std w LT p = false := by
  unfold z_std
  rw [decide_eq_false hp, Bool.false_and]
theorem std_bare {w LT : List Nat} {p : Nat} (hb : z_bare w = true) : z_std w LT p = false := by
  unfold z_std
  rw [hb, Bool.not_true, Bool.false_and, Bool.and_false]
theorem tr13 {m : Me} {a0 a1 : Nat} {w LT : List Nat} (h0 : RLt m a0 LT) (h1 : SY m a1 w) (hw : w.length ≤ 8) (hw1 : 1 ≤ w.length) (hL : LT.length ≤ 30) (hl : ∀ k, k < w.length → w.getD k 0 < 1000) (hl2 : ∀ k, k < LT.length → LT.getD k 0 < 1000) (hb : z_bare w = false) : ∀ j p q n, p + j = LT.length → j < n → q ≤ p → fX7_timesRead_13 n a0 a1 (nI q) (nI p) m = some (nI (q + z_ct (z_std w LT) p j), m) := by
  intro j
  induction j with
  | zero =>
    intro p q n hp hn hq
    obtain ⟨n, rfl⟩ : ∃ z, n = z + 1 := ⟨n - 1, by omega⟩
    unfold fX7_timesRead_13
    rw [h0.1, h1.1, nI_add, if_pos (nI_lt (by omega) (by omega))]
    rfl
  | succ j ih =>
    intro p q n hp hn hq
    obtain ⟨n, rfl⟩ : ∃ z, n = z + 1 := ⟨n - 1, by omega⟩
    rw [fX7_timesRead_13]
    rw [h0.1, h1.1, nI_add]
    by_cases h : p + w.length ≤ LT.length
    · rw [if_neg (nI_nlt h (by omega)), cl2_e (fX7_strangeAt_e h0 h1 hw hL hl hl2 (by omega)), if_pos h]
      unfold fX7_timesRead_38
      rw [nI_1, nI_1]
      show _ = some (nI (q + ((if z_std w LT p then 1 else 0) + z_ct _ (p + 1) j)), m)
      rw [std_ct hb h]
      have hc := z_ct_le (fun i => !z_g w LT p i) w.length 0
      by_cases e : z_ct (fun i => !z_g w LT p i) 0 w.length = 0
      · rw [if_pos (by rw [e]; rfl), ih (p + 1) (q + 1) n (by omega) (by omega) (by omega), decide_eq_true e]
        simp only [if_true]
        rw [Nat.add_assoc]
      · rw [if_neg (show ¬ nI _ = 0 from fun z => e ((nI_lt1000 (b := 0) (by omega) (by decide)).mp z)), ih (p + 1) q n (by omega) (by omega) (by omega), decide_eq_false e]
        simp only [Bool.false_eq_true, if_false, Nat.zero_add]
    · rw [if_pos (nI_lt (by omega) (by omega)), z_ct_0 (j + 1) p (fun i i1 i2 => std_far (by omega)), Nat.add_zero]
theorem fX7_timesRead_e {m : Me} {a0 a1 : Nat} {w LT : List Nat} (h0 : RLt m a0 LT) (h1 : SY m a1 w) (hw : w.length ≤ 8) (hw1 : 1 ≤ w.length) (hL : LT.length ≤ 30) (hl : ∀ k, k < w.length → w.getD k 0 < 1000) (hl2 : ∀ k, k < LT.length → LT.getD k 0 < 1000) : fX7_timesRead a0 a1 m = some (nI (z_rdN w LT), m) := by
  unfold fX7_timesRead z_rdN
  rw [cl2_e (fX8_hasBare_e h1 hw hl)]
  cases hb : z_bare w
  · simp only [Bool.false_eq_true, if_false]
    rw [if_pos (show nI 0 = 0 from rfl), show ((0 : Int32)) = nI 0 from rfl, tr13 h0 h1 hw hw1 hL hl hl2 hb LT.length 0 0 FU (by omega) (FU_pos (by omega)) (Nat.le_refl _), Nat.zero_add]
  · simp only [if_true]
    rw [if_neg (show ¬ nI 1 = 0 by decide), z_ct_0 _ _ (fun i _ _ => std_bare hb)]
    rfl
theorem fr12 {m : Me} {a0 a1 : Nat} {w LT : List Nat} (h0 : RLt m a0 LT) (h1 : SY m a1 w) (hw : w.length ≤ 8) (hw1 : 1 ≤ w.length) (hL : LT.length ≤ 30) (hl : ∀ k, k < w.length → w.getD k 0 < 1000) (hl2 : ∀ k, k < LT.length → LT.getD k 0 < 1000) (hb : z_bare w = false) : ∀ j p n, p + j = LT.length → j < n → fX7_firstRead_12 n a0 a1 (nI p) m = some (z_oi (z_ff (z_std w LT) p j), m) := by
  intro j
  induction j with
  | zero =>
    intro p n hp hn
    obtain ⟨n, rfl⟩ : ∃ z, n = z + 1 := ⟨n - 1, by omega⟩
    unfold fX7_firstRead_12
    rw [h0.1, h1.1, nI_add, if_pos (nI_lt (by omega) (by omega))]
    rfl
  | succ j ih =>
    intro p n hp hn
    obtain ⟨n, rfl⟩ : ∃ z, n = z + 1 := ⟨n - 1, by omega⟩
    rw [fX7_firstRead_12]
    rw [h0.1, h1.1, nI_add]
    by_cases h : p + w.length ≤ LT.length
    · rw [if_neg (nI_nlt h (by omega)), cl2_e (fX7_strangeAt_e h0 h1 hw hL hl hl2 (by omega)), if_pos h, nI_1]
      show _ = some (z_oi (if z_std w LT p then some p else z_ff _ (p + 1) j), m)
      rw [std_ct hb h]
      have hc := z_ct_le (fun i => !z_g w LT p i) w.length 0
      by_cases e : z_ct (fun i => !z_g w LT p i) 0 w.length = 0
      · rw [if_pos (by rw [e]; rfl), decide_eq_true e]
        rfl
      · rw [if_neg (show ¬ nI _ = 0 from fun z => e ((nI_lt1000 (b := 0) (by omega) (by decide)).mp z)), ih (p + 1) n (by omega) (by omega), decide_eq_false e]
        rfl
    · rw [if_pos (nI_lt (by omega) (by omega)), z_ff_0 (j + 1) p (fun i i1 i2 => std_far (by omega))]
      rfl
theorem fX7_firstRead_e {m : Me} {a0 a1 : Nat} {w LT : List Nat} (h0 : RLt m a0 LT) (h1 : SY m a1 w) (hw : w.length ≤ 8) (hw1 : 1 ≤ w.length) (hL : LT.length ≤ 30) (hl : ∀ k, k < w.length → w.getD k 0 < 1000) (hl2 : ∀ k, k < LT.length → LT.getD k 0 < 1000) : fX7_firstRead a0 a1 m = some (z_oi (z_rdF w LT), m) := by
  unfold fX7_firstRead z_rdF
  rw [cl2_e (fX8_hasBare_e h1 hw hl)]
  cases hb : z_bare w
  · simp only [Bool.false_eq_true, if_false]
    rw [if_pos (show nI 0 = 0 from rfl), show ((0 : Int32)) = nI 0 from rfl, fr12 h0 h1 hw hw1 hL hl hl2 hb LT.length 0 FU (by omega) (FU_pos (by omega))]
  · simp only [if_true]
    rw [if_neg (show ¬ nI 1 = 0 by decide), z_ff_0 _ _ (fun i _ _ => std_bare hb)]
    rfl
theorem z_oi_ne {o : Option Nat} (ho : ∀ p, o = some p → p < 1000) : (z_oi o = -2) ↔ o = none := by
  cases o with
  | none => exact ⟨fun _ => rfl, fun _ => rfl⟩
  | some p =>
    refine ⟨fun h => ?_, fun h => by cases h⟩
    exfalso
    have h' : nI p = -2 := h
    have h1 : ¬ nI p < 0 := nI_pos (by have := ho p rfl; omega)
    rw [h'] at h1
    exact h1 (by decide)
theorem fX7_isRead_e {m : Me} {a0 a1 : Nat} {w LT : List Nat} (h0 : RLt m a0 LT) (h1 : SY m a1 w) (hw : w.length ≤ 8) (hw1 : 1 ≤ w.length) (hL : LT.length ≤ 30) (hl : ∀ k, k < w.length → w.getD k 0 < 1000) (hl2 : ∀ k, k < LT.length → LT.getD k 0 < 1000) : fX7_isRead a0 a1 m = some (nI (if z_rdN w LT = 0 then 0 else 1), m) := by
  unfold fX7_isRead fX7_isRead_15
  rw [cl2_e (fX7_firstRead_e h0 h1 hw hw1 hL hl hl2)]
  have h2 : z_oi (z_rdF w LT) = -2 ↔ z_rdN w LT = 0 := (z_oi_ne (fun p hp => by have := z_ff_lt _ _ _ hp; omega)).trans (z_ff_ct _ _ _)
  by_cases h : z_rdN w LT = 0
  · rw [if_pos (h2.mpr h), if_pos h, ck_pos (Or.inl rfl)]
    rfl
  · rw [if_neg (fun z => h (h2.mp z)), if_neg h, ck_pos (Or.inr rfl)]
    rfl
