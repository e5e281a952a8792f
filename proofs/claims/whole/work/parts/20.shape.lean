def S0 : Sh := [(10, 17), (6, 10), (12, 900), (2, 14), (5, 3), (13, 60), (17, 6), (17, 4), (17, 6), (13, 6), (8, 5), (13, 8), (8, 5), (13, 8), (8, 5), (13, 8), (8, 5), (13, 8), (8, 5), (13, 8), (8, 5), (13, 8), (8, 5), (13, 8), (8, 5), (13, 8), (8, 5), (13, 8), (8, 5), (13, 8), (8, 5), (13, 8), (8, 5), (13, 8), (8, 5), (13, 8), (8, 5), (13, 8), (8, 5), (13, 8), (8, 5), (13, 8), (2, 14), (5, 3), (13, 60), (17, 6), (17, 4), (17, 6), (13, 6), (8, 5), (13, 8), (8, 5), (13, 8), (8, 5), (13, 8), (8, 5), (13, 8), (8, 5), (13, 8), (8, 5), (13, 8), (8, 5), (13, 8), (8, 5), (13, 8), (8, 5), (13, 8), (8, 5), (13, 8), (8, 5), (13, 8), (8, 5), (13, 8), (8, 5), (13, 8), (8, 5), (13, 8), (8, 5), (13, 8), (8, 5), (13, 8), (5, 3), (13, 60), (15, 3), (0, 4), (13, 16), (13, 16), (13, 16), (7, 3), (13, 30), (13, 30), (7, 3), (13, 30), (13, 30), (9, 2), (13, 60), (3, 8), (16, 4), (17, 4), (13, 30), (13, 30), (13, 120), (13, 16), (7, 3), (13, 30), (13, 30), (8, 5), (13, 8), (7, 3), (13, 30), (13, 30), (8, 5), (13, 8), (7, 3), (13, 30), (13, 30), (8, 5), (13, 8), (7, 3), (13, 30), (13, 30), (8, 5), (13, 8), (4, 5), (13, 36), (13, 6), (13, 384), (1, 5), (13, 36), (13, 6), (13, 6), (13, 336), (5, 3), (13, 60), (5, 3), (13, 60), (5, 3), (13, 60), (11, 37), (13, 900), (13, 8), (13, 186), (13, 186), (13, 62), (13, 62), (13, 992), (13, 186), (13, 30), (13, 30), (13, 60), (13, 60), (13, 120), (13, 4), (13, 384), (13, 60), (13, 6), (13, 6), (13, 36), (14, 1)]
def ShOK (S : Sh) : Prop := ∃ X, S = S0 ++ X
def kd (a : Nat) : Nat := (S0.getD a (99, 0)).1
def ln (a : Nat) : Nat := (S0.getD a (99, 0)).2
def RF : List (Nat × Nat × Nat) := [(0, 0, 1), (0, 1, 2), (0, 5, 81), (0, 6, 83), (0, 8, 84), (0, 9, 88), (0, 10, 91), (0, 11, 94), (0, 12, 96), (0, 13, 123), (0, 14, 127), (0, 15, 131), (1, 0, 2), (3, 5, 4), (3, 6, 6), (3, 8, 7), (3, 10, 8), (3, 12, 9), (4, 0, 5), (6, 0, 10), (6, 1, 12), (6, 2, 14), (6, 3, 16), (6, 4, 18), (6, 5, 20), (7, 0, 22), (7, 1, 24), (7, 2, 26), (7, 3, 28), (8, 0, 30), (8, 1, 32), (8, 2, 34), (8, 3, 36), (8, 4, 38), (8, 5, 40), (10, 0, 11), (12, 0, 13), (14, 0, 15), (16, 0, 17), (18, 0, 19), (20, 0, 21), (22, 0, 23), (24, 0, 25), (26, 0, 27), (28, 0, 29), (30, 0, 31), (32, 0, 33), (34, 0, 35), (36, 0, 37), (38, 0, 39), (40, 0, 41), (42, 5, 43), (42, 6, 45), (42, 8, 46), (42, 10, 47), (42, 12, 48), (43, 0, 44), (45, 0, 49), (45, 1, 51), (45, 2, 53), (45, 3, 55), (45, 4, 57), (45, 5, 59), (46, 0, 61), (46, 1, 63), (46, 2, 65), (46, 3, 67), (47, 0, 69), (47, 1, 71), (47, 2, 73), (47, 3, 75), (47, 4, 77), (47, 5, 79), (49, 0, 50), (51, 0, 52), (53, 0, 54), (55, 0, 56), (57, 0, 58), (59, 0, 60), (61, 0, 62), (63, 0, 64), (65, 0, 66), (67, 0, 68), (69, 0, 70), (71, 0, 72), (73, 0, 74), (75, 0, 76), (77, 0, 78), (79, 0, 80), (81, 0, 82), (83, 0, 132), (83, 1, 134), (83, 2, 136), (84, 0, 85), (84, 1, 86), (84, 2, 87), (88, 0, 89), (88, 1, 90), (91, 0, 92), (91, 1, 93), (94, 0, 95), (96, 0, 97), (96, 1, 98), (96, 3, 99), (96, 4, 100), (96, 5, 101), (96, 6, 102), (97, 0, 103), (97, 1, 108), (97, 2, 113), (97, 3, 118), (103, 0, 104), (103, 1, 105), (106, 0, 107), (108, 0, 109), (108, 1, 110), (111, 0, 112), (113, 0, 114), (113, 1, 115), (116, 0, 117), (118, 0, 119), (118, 1, 120), (121, 0, 122), (123, 0, 124), (123, 1, 125), (123, 2, 126), (127, 0, 128), (127, 1, 129), (127, 2, 130), (132, 0, 133), (134, 0, 135), (136, 0, 137), (138, 1, 139), (138, 12, 140), (138, 15, 141), (138, 16, 142), (138, 17, 143), (138, 18, 144), (138, 19, 145), (138, 20, 146), (138, 23, 147), (138, 24, 148), (138, 27, 149), (138, 28, 150), (138, 29, 151), (138, 30, 152), (138, 32, 153), (138, 33, 154), (138, 34, 155), (138, 35, 156), (138, 36, 157)]
abbrev inb (i : Int32) (n : Nat) : Prop := ¬ (i < 0 ∨ n ≤ i.toNatClampNeg)
def rr (m : Me) (a j : Nat) : Nat := (m.2 a j).getD 0
/-- which references never change, and of what kind the others are -/
def Inv (m : Me) : Prop := (∀ q ∈ RF, m.2 q.1 q.2.1 = some q.2.2) ∧ (∃ t, m.2 0 3 = some t ∧ kd t = 2) ∧ (∃ t, m.2 1 2 = some t ∧ kd t = 2) ∧ (∀ i, i < 4 → ∃ t, m.2 98 i = some t ∧ kd t = 8)
def InvS (σ : Sm) : Prop := Inv σ.2
theorem kd_lt {a k : Nat} (h : kd a = k) (hk : k ≠ 99) : a < 159 := by
  rcases Nat.lt_or_ge a 159 with h1 | h1
  · exact h1
  · exfalso
    apply hk
    rw [← h]
    unfold kd
    rw [List.getD_eq_getElem?_getD, List.getElem?_eq_none (show S0.length ≤ a from h1)]
    rfl
theorem kd_4 {a k : Nat} (h : kd a = k) (hk : k ≠ 99) : a < 4000000 := Nat.lt_of_lt_of_le (kd_lt h hk) (by decide)
theorem kd_S {a k : Nat} {S : Sh} (hS : ShOK S) (h : kd a = k) (hk : k ≠ 99) : a < S.length := by
  obtain ⟨X, rfl⟩ := hS
  have h1 := kd_lt h hk
  have h2 : S0.length = 159 := rfl
  rw [List.length_append]
  omega
theorem sh_kd {S : Sh} (hS : ShOK S) {a k : Nat} (h : kd a = k) (hk : k ≠ 99) : S[a]? = some (k, ln a) := by
  obtain ⟨X, rfl⟩ := hS
  have h1 := kd_lt h hk
  have h2 : a < S0.length := h1
  rw [List.getElem?_append_left h2]
  have h3 : S0.getD a (99, 0) = (k, ln a) := by rw [← h]; rfl
  rw [List.getD_eq_getElem?_getD] at h3
  rw [List.getElem?_eq_getElem h2] at h3 ⊢
  exact congrArg some h3
theorem sh_ln {S : Sh} (hS : ShOK S) {a k n : Nat} (h : kd a = k ∧ ln a = n) (hk : k ≠ 99) : S[a]? = some (k, n) := by rw [← h.2]; exact sh_kd hS h.1 hk
theorem kd_all {k : Nat} {P : Nat → Prop} (hk : k ≠ 99) (h : ∀ a, a < 159 → kd a = k → P a) {a : Nat} (ha : kd a = k) : P a := h a (kd_lt ha hk) ha
theorem kd5 {a : Nat} (h : kd a = 5) : kd (a + 1) = 13 ∧ ln (a + 1) = 60 := kd_all (k := 5) (P := fun a => kd (a + 1) = 13 ∧ ln (a + 1) = 60) (by decide) (by decide +kernel) h
theorem kd7a {a : Nat} (h : kd a = 7) : kd (a + 1) = 13 ∧ ln (a + 1) = 30 := kd_all (k := 7) (P := fun a => kd (a + 1) = 13 ∧ ln (a + 1) = 30) (by decide) (by decide +kernel) h
theorem kd7b {a : Nat} (h : kd a = 7) : kd (a + 2) = 13 ∧ ln (a + 2) = 30 := kd_all (k := 7) (P := fun a => kd (a + 2) = 13 ∧ ln (a + 2) = 30) (by decide) (by decide +kernel) h
theorem kd8 {a : Nat} (h : kd a = 8) : kd (a + 1) = 13 ∧ ln (a + 1) = 8 := kd_all (k := 8) (P := fun a => kd (a + 1) = 13 ∧ ln (a + 1) = 8) (by decide) (by decide +kernel) h
theorem kd2s {a : Nat} (h : kd a = 2) : kd (a + 1) = 5 := kd_all (k := 2) (P := fun a => kd (a + 1) = 5) (by decide) (by decide +kernel) h
theorem kd2w {a : Nat} (h : kd a = 2) : kd (a + 3) = 17 ∧ ln (a + 3) = 6 := kd_all (k := 2) (P := fun a => kd (a + 3) = 17 ∧ ln (a + 3) = 6) (by decide) (by decide +kernel) h
theorem kd2i {a : Nat} (h : kd a = 2) : kd (a + 4) = 17 ∧ ln (a + 4) = 4 := kd_all (k := 2) (P := fun a => kd (a + 4) = 17 ∧ ln (a + 4) = 4) (by decide) (by decide +kernel) h
theorem kd2n {a : Nat} (h : kd a = 2) : kd (a + 5) = 17 ∧ ln (a + 5) = 6 := kd_all (k := 2) (P := fun a => kd (a + 5) = 17 ∧ ln (a + 5) = 6) (by decide) (by decide +kernel) h
theorem kd2b {a : Nat} (h : kd a = 2) : kd (a + 6) = 13 ∧ ln (a + 6) = 6 := kd_all (k := 2) (P := fun a => kd (a + 6) = 13 ∧ ln (a + 6) = 6) (by decide) (by decide +kernel) h
theorem kd2_two {a : Nat} (h : kd a = 2) : a = 3 ∨ a = 42 := kd_all (k := 2) (P := fun a => a = 3 ∨ a = 42) (by decide) (by decide +kernel) h
theorem inb_lt {i : Int32} {n : Nat} (h : inb i n) : i.toNatClampNeg < n := Nat.not_le.mp fun q => h (Or.inr q)
theorem kdW {a : Nat} (h : kd a = 2) {i : Int32} (hi : inb i 6) : kd (a + 7 + 2 * i.toNatClampNeg) = 8 := by
  rcases kd2_two h with rfl | rfl
  · exact (by decide +kernel : ∀ j, j < 6 → kd (3 + 7 + 2 * j) = 8) _ (inb_lt hi)
  · exact (by decide +kernel : ∀ j, j < 6 → kd (42 + 7 + 2 * j) = 8) _ (inb_lt hi)
theorem kdI {a : Nat} (h : kd a = 2) {i : Int32} (hi : inb i 4) : kd (a + 19 + 2 * i.toNatClampNeg) = 8 := by
  rcases kd2_two h with rfl | rfl
  · exact (by decide +kernel : ∀ j, j < 4 → kd (3 + 19 + 2 * j) = 8) _ (inb_lt hi)
  · exact (by decide +kernel : ∀ j, j < 4 → kd (42 + 19 + 2 * j) = 8) _ (inb_lt hi)
theorem kdN {a : Nat} (h : kd a = 2) {i : Int32} (hi : inb i 6) : kd (a + 27 + 2 * i.toNatClampNeg) = 8 := by
  rcases kd2_two h with rfl | rfl
  · exact (by decide +kernel : ∀ j, j < 6 → kd (3 + 27 + 2 * j) = 8) _ (inb_lt hi)
  · exact (by decide +kernel : ∀ j, j < 6 → kd (42 + 27 + 2 * j) = 8) _ (inb_lt hi)
theorem kdA {i : Int32} (hi : inb i 3) : kd (132 + 2 * i.toNatClampNeg) = 5 := (by decide : ∀ j, j < 3 → kd (132 + 2 * j) = 5) _ (inb_lt hi)
theorem kdR {i : Int32} (hi : inb i 4) : kd (103 + 5 * i.toNatClampNeg) = 7 := (by decide : ∀ j, j < 4 → kd (103 + 5 * j) = 7) _ (inb_lt hi)
section INV
variable {m : Me}
theorem iv (h : Inv m) (a j b : Nat) (hq : (a, j, b) ∈ RF) : m.2 a j = some b := h.1 _ hq
theorem iv5 (h : Inv m) {a : Nat} (ha : kd a = 5) : m.2 a 0 = some (a + 1) := iv h _ _ _ (kd_all (k := 5) (P := fun a => (a, 0, a + 1) ∈ RF) (by decide) (by decide +kernel) ha)
theorem iv7a (h : Inv m) {a : Nat} (ha : kd a = 7) : m.2 a 0 = some (a + 1) := iv h _ _ _ (kd_all (k := 7) (P := fun a => (a, 0, a + 1) ∈ RF) (by decide) (by decide +kernel) ha)
theorem iv7b (h : Inv m) {a : Nat} (ha : kd a = 7) : m.2 a 1 = some (a + 2) := iv h _ _ _ (kd_all (k := 7) (P := fun a => (a, 1, a + 2) ∈ RF) (by decide) (by decide +kernel) ha)
theorem iv8 (h : Inv m) {a : Nat} (ha : kd a = 8) : m.2 a 0 = some (a + 1) := iv h _ _ _ (kd_all (k := 8) (P := fun a => (a, 0, a + 1) ∈ RF) (by decide) (by decide +kernel) ha)
theorem iv2s (h : Inv m) {a : Nat} (ha : kd a = 2) : m.2 a 5 = some (a + 1) := iv h _ _ _ (kd_all (k := 2) (P := fun a => (a, 5, a + 1) ∈ RF) (by decide) (by decide +kernel) ha)
theorem iv2w (h : Inv m) {a : Nat} (ha : kd a = 2) : m.2 a 6 = some (a + 3) := iv h _ _ _ (kd_all (k := 2) (P := fun a => (a, 6, a + 3) ∈ RF) (by decide) (by decide +kernel) ha)
theorem iv2i (h : Inv m) {a : Nat} (ha : kd a = 2) : m.2 a 8 = some (a + 4) := iv h _ _ _ (kd_all (k := 2) (P := fun a => (a, 8, a + 4) ∈ RF) (by decide) (by decide +kernel) ha)
theorem iv2n (h : Inv m) {a : Nat} (ha : kd a = 2) : m.2 a 10 = some (a + 5) := iv h _ _ _ (kd_all (k := 2) (P := fun a => (a, 10, a + 5) ∈ RF) (by decide) (by decide +kernel) ha)
theorem iv2b (h : Inv m) {a : Nat} (ha : kd a = 2) : m.2 a 12 = some (a + 6) := iv h _ _ _ (kd_all (k := 2) (P := fun a => (a, 12, a + 6) ∈ RF) (by decide) (by decide +kernel) ha)
theorem ivW (h : Inv m) {a : Nat} (ha : kd a = 2) {i : Int32} (hi : inb i 6) : m.2 (a + 3) i.toNatClampNeg = some (a + 7 + 2 * i.toNatClampNeg) := by
  rcases kd2_two ha with rfl | rfl
  · exact iv h _ _ _ ((by decide +kernel : ∀ j, j < 6 → (3 + 3, j, 3 + 7 + 2 * j) ∈ RF) _ (inb_lt hi))
  · exact iv h _ _ _ ((by decide +kernel : ∀ j, j < 6 → (42 + 3, j, 42 + 7 + 2 * j) ∈ RF) _ (inb_lt hi))
theorem ivI (h : Inv m) {a : Nat} (ha : kd a = 2) {i : Int32} (hi : inb i 4) : m.2 (a + 4) i.toNatClampNeg = some (a + 19 + 2 * i.toNatClampNeg) := by
  rcases kd2_two ha with rfl | rfl
  · exact iv h _ _ _ ((by decide +kernel : ∀ j, j < 4 → (3 + 4, j, 3 + 19 + 2 * j) ∈ RF) _ (inb_lt hi))
  · exact iv h _ _ _ ((by decide +kernel : ∀ j, j < 4 → (42 + 4, j, 42 + 19 + 2 * j) ∈ RF) _ (inb_lt hi))
theorem ivN (h : Inv m) {a : Nat} (ha : kd a = 2) {i : Int32} (hi : inb i 6) : m.2 (a + 5) i.toNatClampNeg = some (a + 27 + 2 * i.toNatClampNeg) := by
  rcases kd2_two ha with rfl | rfl
  · exact iv h _ _ _ ((by decide +kernel : ∀ j, j < 6 → (3 + 5, j, 3 + 27 + 2 * j) ∈ RF) _ (inb_lt hi))
  · exact iv h _ _ _ ((by decide +kernel : ∀ j, j < 6 → (42 + 5, j, 42 + 27 + 2 * j) ∈ RF) _ (inb_lt hi))
theorem ivA (h : Inv m) {i : Int32} (hi : inb i 3) : m.2 83 i.toNatClampNeg = some (132 + 2 * i.toNatClampNeg) := iv h _ _ _ ((by decide +kernel : ∀ j, j < 3 → (83, j, 132 + 2 * j) ∈ RF) _ (inb_lt hi))
theorem ivR (h : Inv m) {i : Int32} (hi : inb i 4) : m.2 97 i.toNatClampNeg = some (103 + 5 * i.toNatClampNeg) := iv h _ _ _ ((by decide +kernel : ∀ j, j < 4 → (97, j, 103 + 5 * j) ∈ RF) _ (inb_lt hi))
theorem ivT (h : Inv m) : m.2 0 3 = some (rr m 0 3) ∧ kd (rr m 0 3) = 2 := by
  obtain ⟨t, h1, h2⟩ := h.2.1
  unfold rr
  rw [h1]
  exact ⟨rfl, h2⟩
theorem ivF (h : Inv m) : m.2 1 2 = some (rr m 1 2) ∧ kd (rr m 1 2) = 2 := by
  obtain ⟨t, h1, h2⟩ := h.2.2.1
  unfold rr
  rw [h1]
  exact ⟨rfl, h2⟩
theorem ivM (h : Inv m) {i : Int32} (hi : inb i 4) : m.2 98 i.toNatClampNeg = some (rr m 98 i.toNatClampNeg) ∧ kd (rr m 98 i.toNatClampNeg) = 8 := by
  obtain ⟨t, h1, h2⟩ := h.2.2.2 _ (inb_lt hi)
  unfold rr
  rw [h1]
  exact ⟨rfl, h2⟩
theorem rf_mut : ∀ q ∈ RF, ¬ (q.1 = 0 ∧ q.2.1 = 3) ∧ ¬ (q.1 = 1 ∧ q.2.1 = 2) ∧ ¬ q.1 = 98 := by decide +kernel
theorem inv_told (h : Inv m) {b : Nat} (hb : kd b = 2) : Inv (setR m 0 3 (some b)) := by
  refine ⟨fun q hq => ?_, ⟨b, rfl, hb⟩, ?_, fun i hi => ?_⟩
  · show (if q.1 = 0 ∧ q.2.1 = 3 then some b else m.2 q.1 q.2.1) = _
    rw [if_neg (rf_mut q hq).1]
    exact h.1 q hq
  · exact h.2.2.1
  · exact h.2.2.2 i hi
theorem inv_rfan (h : Inv m) {b : Nat} (hb : kd b = 2) : Inv (setR m 1 2 (some b)) := by
  refine ⟨fun q hq => ?_, ?_, ⟨b, rfl, hb⟩, fun i hi => ?_⟩
  · show (if q.1 = 1 ∧ q.2.1 = 2 then some b else m.2 q.1 q.2.1) = _
    rw [if_neg (rf_mut q hq).2.1]
    exact h.1 q hq
  · exact h.2.1
  · exact h.2.2.2 i hi
theorem inv_wish (h : Inv m) {b i : Nat} (hb : kd b = 8) : Inv (setR m 98 i (some b)) := by
  refine ⟨fun q hq => ?_, h.2.1, h.2.2.1, fun j hj => ?_⟩
  · show (if q.1 = 98 ∧ q.2.1 = i then some b else m.2 q.1 q.2.1) = _
    rw [if_neg (fun e => (rf_mut q hq).2.2 e.1)]
    exact h.1 q hq
  · by_cases e : j = i
    · subst e
      exact ⟨b, if_pos ⟨rfl, rfl⟩, hb⟩
    · obtain ⟨t, h1, h2⟩ := h.2.2.2 j hj
      refine ⟨t, ?_, h2⟩
      show (if 98 = 98 ∧ j = i then some b else m.2 98 j) = _
      rw [if_neg (fun z => e z.2)]
      exact h1
end INV
theorem h_0 {S : Sh} (h : ShOK S) : S[0]? = some (10, 17) := sh_kd h (a := 0) (k := 10) rfl (by decide)
theorem h_1 {S : Sh} (h : ShOK S) : S[1]? = some (6, 10) := sh_kd h (a := 1) (k := 6) rfl (by decide)
theorem h_2 {S : Sh} (h : ShOK S) : S[2]? = some (12, 900) := sh_kd h (a := 2) (k := 12) rfl (by decide)
theorem h_3 {S : Sh} (h : ShOK S) : S[3]? = some (2, 14) := sh_kd h (a := 3) (k := 2) rfl (by decide)
theorem h_4 {S : Sh} (h : ShOK S) : S[4]? = some (5, 3) := sh_kd h (a := 4) (k := 5) rfl (by decide)
theorem h_5 {S : Sh} (h : ShOK S) : S[5]? = some (13, 60) := sh_kd h (a := 5) (k := 13) rfl (by decide)
theorem h_6 {S : Sh} (h : ShOK S) : S[6]? = some (17, 6) := sh_kd h (a := 6) (k := 17) rfl (by decide)
theorem h_7 {S : Sh} (h : ShOK S) : S[7]? = some (17, 4) := sh_kd h (a := 7) (k := 17) rfl (by decide)
theorem h_8 {S : Sh} (h : ShOK S) : S[8]? = some (17, 6) := sh_kd h (a := 8) (k := 17) rfl (by decide)
theorem h_9 {S : Sh} (h : ShOK S) : S[9]? = some (13, 6) := sh_kd h (a := 9) (k := 13) rfl (by decide)
theorem h_10 {S : Sh} (h : ShOK S) : S[10]? = some (8, 5) := sh_kd h (a := 10) (k := 8) rfl (by decide)
theorem h_11 {S : Sh} (h : ShOK S) : S[11]? = some (13, 8) := sh_kd h (a := 11) (k := 13) rfl (by decide)
theorem h_12 {S : Sh} (h : ShOK S) : S[12]? = some (8, 5) := sh_kd h (a := 12) (k := 8) rfl (by decide)
theorem h_13 {S : Sh} (h : ShOK S) : S[13]? = some (13, 8) := sh_kd h (a := 13) (k := 13) rfl (by decide)
theorem h_14 {S : Sh} (h : ShOK S) : S[14]? = some (8, 5) := sh_kd h (a := 14) (k := 8) rfl (by decide)
theorem h_15 {S : Sh} (h : ShOK S) : S[15]? = some (13, 8) := sh_kd h (a := 15) (k := 13) rfl (by decide)
theorem h_16 {S : Sh} (h : ShOK S) : S[16]? = some (8, 5) := sh_kd h (a := 16) (k := 8) rfl (by decide)
theorem h_17 {S : Sh} (h : ShOK S) : S[17]? = some (13, 8) := sh_kd h (a := 17) (k := 13) rfl (by decide)
theorem h_18 {S : Sh} (h : ShOK S) : S[18]? = some (8, 5) := sh_kd h (a := 18) (k := 8) rfl (by decide)
theorem h_19 {S : Sh} (h : ShOK S) : S[19]? = some (13, 8) := sh_kd h (a := 19) (k := 13) rfl (by decide)
theorem h_20 {S : Sh} (h : ShOK S) : S[20]? = some (8, 5) := sh_kd h (a := 20) (k := 8) rfl (by decide)
theorem h_21 {S : Sh} (h : ShOK S) : S[21]? = some (13, 8) := sh_kd h (a := 21) (k := 13) rfl (by decide)
theorem h_22 {S : Sh} (h : ShOK S) : S[22]? = some (8, 5) := sh_kd h (a := 22) (k := 8) rfl (by decide)
theorem h_23 {S : Sh} (h : ShOK S) : S[23]? = some (13, 8) := sh_kd h (a := 23) (k := 13) rfl (by decide)
theorem h_24 {S : Sh} (h : ShOK S) : S[24]? = some (8, 5) := sh_kd h (a := 24) (k := 8) rfl (by decide)
theorem h_25 {S : Sh} (h : ShOK S) : S[25]? = some (13, 8) := sh_kd h (a := 25) (k := 13) rfl (by decide)
theorem h_26 {S : Sh} (h : ShOK S) : S[26]? = some (8, 5) := sh_kd h (a := 26) (k := 8) rfl (by decide)
theorem h_27 {S : Sh} (h : ShOK S) : S[27]? = some (13, 8) := sh_kd h (a := 27) (k := 13) rfl (by decide)
theorem h_28 {S : Sh} (h : ShOK S) : S[28]? = some (8, 5) := sh_kd h (a := 28) (k := 8) rfl (by decide)
theorem h_29 {S : Sh} (h : ShOK S) : S[29]? = some (13, 8) := sh_kd h (a := 29) (k := 13) rfl (by decide)
theorem h_30 {S : Sh} (h : ShOK S) : S[30]? = some (8, 5) := sh_kd h (a := 30) (k := 8) rfl (by decide)
theorem h_31 {S : Sh} (h : ShOK S) : S[31]? = some (13, 8) := sh_kd h (a := 31) (k := 13) rfl (by decide)
theorem h_32 {S : Sh} (h : ShOK S) : S[32]? = some (8, 5) := sh_kd h (a := 32) (k := 8) rfl (by decide)
theorem h_33 {S : Sh} (h : ShOK S) : S[33]? = some (13, 8) := sh_kd h (a := 33) (k := 13) rfl (by decide)
theorem h_34 {S : Sh} (h : ShOK S) : S[34]? = some (8, 5) := sh_kd h (a := 34) (k := 8) rfl (by decide)
theorem h_35 {S : Sh} (h : ShOK S) : S[35]? = some (13, 8) := sh_kd h (a := 35) (k := 13) rfl (by decide)
theorem h_36 {S : Sh} (h : ShOK S) : S[36]? = some (8, 5) := sh_kd h (a := 36) (k := 8) rfl (by decide)
theorem h_37 {S : Sh} (h : ShOK S) : S[37]? = some (13, 8) := sh_kd h (a := 37) (k := 13) rfl (by decide)
theorem h_38 {S : Sh} (h : ShOK S) : S[38]? = some (8, 5) := sh_kd h (a := 38) (k := 8) rfl (by decide)
theorem h_39 {S : Sh} (h : ShOK S) : S[39]? = some (13, 8) := sh_kd h (a := 39) (k := 13) rfl (by decide)
theorem h_40 {S : Sh} (h : ShOK S) : S[40]? = some (8, 5) := sh_kd h (a := 40) (k := 8) rfl (by decide)
theorem h_41 {S : Sh} (h : ShOK S) : S[41]? = some (13, 8) := sh_kd h (a := 41) (k := 13) rfl (by decide)
theorem h_42 {S : Sh} (h : ShOK S) : S[42]? = some (2, 14) := sh_kd h (a := 42) (k := 2) rfl (by decide)
theorem h_43 {S : Sh} (h : ShOK S) : S[43]? = some (5, 3) := sh_kd h (a := 43) (k := 5) rfl (by decide)
theorem h_44 {S : Sh} (h : ShOK S) : S[44]? = some (13, 60) := sh_kd h (a := 44) (k := 13) rfl (by decide)
theorem h_45 {S : Sh} (h : ShOK S) : S[45]? = some (17, 6) := sh_kd h (a := 45) (k := 17) rfl (by decide)
theorem h_46 {S : Sh} (h : ShOK S) : S[46]? = some (17, 4) := sh_kd h (a := 46) (k := 17) rfl (by decide)
theorem h_47 {S : Sh} (h : ShOK S) : S[47]? = some (17, 6) := sh_kd h (a := 47) (k := 17) rfl (by decide)
theorem h_48 {S : Sh} (h : ShOK S) : S[48]? = some (13, 6) := sh_kd h (a := 48) (k := 13) rfl (by decide)
theorem h_49 {S : Sh} (h : ShOK S) : S[49]? = some (8, 5) := sh_kd h (a := 49) (k := 8) rfl (by decide)
theorem h_50 {S : Sh} (h : ShOK S) : S[50]? = some (13, 8) := sh_kd h (a := 50) (k := 13) rfl (by decide)
theorem h_51 {S : Sh} (h : ShOK S) : S[51]? = some (8, 5) := sh_kd h (a := 51) (k := 8) rfl (by decide)
theorem h_52 {S : Sh} (h : ShOK S) : S[52]? = some (13, 8) := sh_kd h (a := 52) (k := 13) rfl (by decide)
theorem h_53 {S : Sh} (h : ShOK S) : S[53]? = some (8, 5) := sh_kd h (a := 53) (k := 8) rfl (by decide)
theorem h_54 {S : Sh} (h : ShOK S) : S[54]? = some (13, 8) := sh_kd h (a := 54) (k := 13) rfl (by decide)
theorem h_55 {S : Sh} (h : ShOK S) : S[55]? = some (8, 5) := sh_kd h (a := 55) (k := 8) rfl (by decide)
theorem h_56 {S : Sh} (h : ShOK S) : S[56]? = some (13, 8) := sh_kd h (a := 56) (k := 13) rfl (by decide)
theorem h_57 {S : Sh} (h : ShOK S) : S[57]? = some (8, 5) := sh_kd h (a := 57) (k := 8) rfl (by decide)
theorem h_58 {S : Sh} (h : ShOK S) : S[58]? = some (13, 8) := sh_kd h (a := 58) (k := 13) rfl (by decide)
theorem h_59 {S : Sh} (h : ShOK S) : S[59]? = some (8, 5) := sh_kd h (a := 59) (k := 8) rfl (by decide)
theorem h_60 {S : Sh} (h : ShOK S) : S[60]? = some (13, 8) := sh_kd h (a := 60) (k := 13) rfl (by decide)
theorem h_61 {S : Sh} (h : ShOK S) : S[61]? = some (8, 5) := sh_kd h (a := 61) (k := 8) rfl (by decide)
theorem h_62 {S : Sh} (h : ShOK S) : S[62]? = some (13, 8) := sh_kd h (a := 62) (k := 13) rfl (by decide)
theorem h_63 {S : Sh} (h : ShOK S) : S[63]? = some (8, 5) := sh_kd h (a := 63) (k := 8) rfl (by decide)
theorem h_64 {S : Sh} (h : ShOK S) : S[64]? = some (13, 8) := sh_kd h (a := 64) (k := 13) rfl (by decide)
theorem h_65 {S : Sh} (h : ShOK S) : S[65]? = some (8, 5) := sh_kd h (a := 65) (k := 8) rfl (by decide)
theorem h_66 {S : Sh} (h : ShOK S) : S[66]? = some (13, 8) := sh_kd h (a := 66) (k := 13) rfl (by decide)
theorem h_67 {S : Sh} (h : ShOK S) : S[67]? = some (8, 5) := sh_kd h (a := 67) (k := 8) rfl (by decide)
theorem h_68 {S : Sh} (h : ShOK S) : S[68]? = some (13, 8) := sh_kd h (a := 68) (k := 13) rfl (by decide)
theorem h_69 {S : Sh} (h : ShOK S) : S[69]? = some (8, 5) := sh_kd h (a := 69) (k := 8) rfl (by decide)
theorem h_70 {S : Sh} (h : ShOK S) : S[70]? = some (13, 8) := sh_kd h (a := 70) (k := 13) rfl (by decide)
theorem h_71 {S : Sh} (h : ShOK S) : S[71]? = some (8, 5) := sh_kd h (a := 71) (k := 8) rfl (by decide)
theorem h_72 {S : Sh} (h : ShOK S) : S[72]? = some (13, 8) := sh_kd h (a := 72) (k := 13) rfl (by decide)
theorem h_73 {S : Sh} (h : ShOK S) : S[73]? = some (8, 5) := sh_kd h (a := 73) (k := 8) rfl (by decide)
theorem h_74 {S : Sh} (h : ShOK S) : S[74]? = some (13, 8) := sh_kd h (a := 74) (k := 13) rfl (by decide)
theorem h_75 {S : Sh} (h : ShOK S) : S[75]? = some (8, 5) := sh_kd h (a := 75) (k := 8) rfl (by decide)
theorem h_76 {S : Sh} (h : ShOK S) : S[76]? = some (13, 8) := sh_kd h (a := 76) (k := 13) rfl (by decide)
theorem h_77 {S : Sh} (h : ShOK S) : S[77]? = some (8, 5) := sh_kd h (a := 77) (k := 8) rfl (by decide)
theorem h_78 {S : Sh} (h : ShOK S) : S[78]? = some (13, 8) := sh_kd h (a := 78) (k := 13) rfl (by decide)
theorem h_79 {S : Sh} (h : ShOK S) : S[79]? = some (8, 5) := sh_kd h (a := 79) (k := 8) rfl (by decide)
theorem h_80 {S : Sh} (h : ShOK S) : S[80]? = some (13, 8) := sh_kd h (a := 80) (k := 13) rfl (by decide)
theorem h_81 {S : Sh} (h : ShOK S) : S[81]? = some (5, 3) := sh_kd h (a := 81) (k := 5) rfl (by decide)
theorem h_82 {S : Sh} (h : ShOK S) : S[82]? = some (13, 60) := sh_kd h (a := 82) (k := 13) rfl (by decide)
theorem h_83 {S : Sh} (h : ShOK S) : S[83]? = some (15, 3) := sh_kd h (a := 83) (k := 15) rfl (by decide)
theorem h_84 {S : Sh} (h : ShOK S) : S[84]? = some (0, 4) := sh_kd h (a := 84) (k := 0) rfl (by decide)
theorem h_85 {S : Sh} (h : ShOK S) : S[85]? = some (13, 16) := sh_kd h (a := 85) (k := 13) rfl (by decide)
theorem h_86 {S : Sh} (h : ShOK S) : S[86]? = some (13, 16) := sh_kd h (a := 86) (k := 13) rfl (by decide)
theorem h_87 {S : Sh} (h : ShOK S) : S[87]? = some (13, 16) := sh_kd h (a := 87) (k := 13) rfl (by decide)
theorem h_88 {S : Sh} (h : ShOK S) : S[88]? = some (7, 3) := sh_kd h (a := 88) (k := 7) rfl (by decide)
theorem h_89 {S : Sh} (h : ShOK S) : S[89]? = some (13, 30) := sh_kd h (a := 89) (k := 13) rfl (by decide)
theorem h_90 {S : Sh} (h : ShOK S) : S[90]? = some (13, 30) := sh_kd h (a := 90) (k := 13) rfl (by decide)
theorem h_91 {S : Sh} (h : ShOK S) : S[91]? = some (7, 3) := sh_kd h (a := 91) (k := 7) rfl (by decide)
theorem h_92 {S : Sh} (h : ShOK S) : S[92]? = some (13, 30) := sh_kd h (a := 92) (k := 13) rfl (by decide)
theorem h_93 {S : Sh} (h : ShOK S) : S[93]? = some (13, 30) := sh_kd h (a := 93) (k := 13) rfl (by decide)
theorem h_94 {S : Sh} (h : ShOK S) : S[94]? = some (9, 2) := sh_kd h (a := 94) (k := 9) rfl (by decide)
theorem h_95 {S : Sh} (h : ShOK S) : S[95]? = some (13, 60) := sh_kd h (a := 95) (k := 13) rfl (by decide)
theorem h_96 {S : Sh} (h : ShOK S) : S[96]? = some (3, 8) := sh_kd h (a := 96) (k := 3) rfl (by decide)
theorem h_97 {S : Sh} (h : ShOK S) : S[97]? = some (16, 4) := sh_kd h (a := 97) (k := 16) rfl (by decide)
theorem h_98 {S : Sh} (h : ShOK S) : S[98]? = some (17, 4) := sh_kd h (a := 98) (k := 17) rfl (by decide)
theorem h_99 {S : Sh} (h : ShOK S) : S[99]? = some (13, 30) := sh_kd h (a := 99) (k := 13) rfl (by decide)
theorem h_100 {S : Sh} (h : ShOK S) : S[100]? = some (13, 30) := sh_kd h (a := 100) (k := 13) rfl (by decide)
theorem h_101 {S : Sh} (h : ShOK S) : S[101]? = some (13, 120) := sh_kd h (a := 101) (k := 13) rfl (by decide)
theorem h_102 {S : Sh} (h : ShOK S) : S[102]? = some (13, 16) := sh_kd h (a := 102) (k := 13) rfl (by decide)
theorem h_103 {S : Sh} (h : ShOK S) : S[103]? = some (7, 3) := sh_kd h (a := 103) (k := 7) rfl (by decide)
theorem h_104 {S : Sh} (h : ShOK S) : S[104]? = some (13, 30) := sh_kd h (a := 104) (k := 13) rfl (by decide)
theorem h_105 {S : Sh} (h : ShOK S) : S[105]? = some (13, 30) := sh_kd h (a := 105) (k := 13) rfl (by decide)
theorem h_106 {S : Sh} (h : ShOK S) : S[106]? = some (8, 5) := sh_kd h (a := 106) (k := 8) rfl (by decide)
theorem h_107 {S : Sh} (h : ShOK S) : S[107]? = some (13, 8) := sh_kd h (a := 107) (k := 13) rfl (by decide)
theorem h_108 {S : Sh} (h : ShOK S) : S[108]? = some (7, 3) := sh_kd h (a := 108) (k := 7) rfl (by decide)
theorem h_109 {S : Sh} (h : ShOK S) : S[109]? = some (13, 30) := sh_kd h (a := 109) (k := 13) rfl (by decide)
theorem h_110 {S : Sh} (h : ShOK S) : S[110]? = some (13, 30) := sh_kd h (a := 110) (k := 13) rfl (by decide)
theorem h_111 {S : Sh} (h : ShOK S) : S[111]? = some (8, 5) := sh_kd h (a := 111) (k := 8) rfl (by decide)
theorem h_112 {S : Sh} (h : ShOK S) : S[112]? = some (13, 8) := sh_kd h (a := 112) (k := 13) rfl (by decide)
theorem h_113 {S : Sh} (h : ShOK S) : S[113]? = some (7, 3) := sh_kd h (a := 113) (k := 7) rfl (by decide)
theorem h_114 {S : Sh} (h : ShOK S) : S[114]? = some (13, 30) := sh_kd h (a := 114) (k := 13) rfl (by decide)
theorem h_115 {S : Sh} (h : ShOK S) : S[115]? = some (13, 30) := sh_kd h (a := 115) (k := 13) rfl (by decide)
theorem h_116 {S : Sh} (h : ShOK S) : S[116]? = some (8, 5) := sh_kd h (a := 116) (k := 8) rfl (by decide)
theorem h_117 {S : Sh} (h : ShOK S) : S[117]? = some (13, 8) := sh_kd h (a := 117) (k := 13) rfl (by decide)
theorem h_118 {S : Sh} (h : ShOK S) : S[118]? = some (7, 3) := sh_kd h (a := 118) (k := 7) rfl (by decide)
theorem h_119 {S : Sh} (h : ShOK S) : S[119]? = some (13, 30) := sh_kd h (a := 119) (k := 13) rfl (by decide)
theorem h_120 {S : Sh} (h : ShOK S) : S[120]? = some (13, 30) := sh_kd h (a := 120) (k := 13) rfl (by decide)
theorem h_121 {S : Sh} (h : ShOK S) : S[121]? = some (8, 5) := sh_kd h (a := 121) (k := 8) rfl (by decide)
theorem h_122 {S : Sh} (h : ShOK S) : S[122]? = some (13, 8) := sh_kd h (a := 122) (k := 13) rfl (by decide)
theorem h_123 {S : Sh} (h : ShOK S) : S[123]? = some (4, 5) := sh_kd h (a := 123) (k := 4) rfl (by decide)
theorem h_124 {S : Sh} (h : ShOK S) : S[124]? = some (13, 36) := sh_kd h (a := 124) (k := 13) rfl (by decide)
theorem h_125 {S : Sh} (h : ShOK S) : S[125]? = some (13, 6) := sh_kd h (a := 125) (k := 13) rfl (by decide)
theorem h_126 {S : Sh} (h : ShOK S) : S[126]? = some (13, 384) := sh_kd h (a := 126) (k := 13) rfl (by decide)
theorem h_127 {S : Sh} (h : ShOK S) : S[127]? = some (1, 5) := sh_kd h (a := 127) (k := 1) rfl (by decide)
theorem h_128 {S : Sh} (h : ShOK S) : S[128]? = some (13, 36) := sh_kd h (a := 128) (k := 13) rfl (by decide)
theorem h_129 {S : Sh} (h : ShOK S) : S[129]? = some (13, 6) := sh_kd h (a := 129) (k := 13) rfl (by decide)
theorem h_130 {S : Sh} (h : ShOK S) : S[130]? = some (13, 6) := sh_kd h (a := 130) (k := 13) rfl (by decide)
theorem h_131 {S : Sh} (h : ShOK S) : S[131]? = some (13, 336) := sh_kd h (a := 131) (k := 13) rfl (by decide)
theorem h_132 {S : Sh} (h : ShOK S) : S[132]? = some (5, 3) := sh_kd h (a := 132) (k := 5) rfl (by decide)
theorem h_133 {S : Sh} (h : ShOK S) : S[133]? = some (13, 60) := sh_kd h (a := 133) (k := 13) rfl (by decide)
theorem h_134 {S : Sh} (h : ShOK S) : S[134]? = some (5, 3) := sh_kd h (a := 134) (k := 5) rfl (by decide)
theorem h_135 {S : Sh} (h : ShOK S) : S[135]? = some (13, 60) := sh_kd h (a := 135) (k := 13) rfl (by decide)
theorem h_136 {S : Sh} (h : ShOK S) : S[136]? = some (5, 3) := sh_kd h (a := 136) (k := 5) rfl (by decide)
theorem h_137 {S : Sh} (h : ShOK S) : S[137]? = some (13, 60) := sh_kd h (a := 137) (k := 13) rfl (by decide)
theorem h_138 {S : Sh} (h : ShOK S) : S[138]? = some (11, 37) := sh_kd h (a := 138) (k := 11) rfl (by decide)
theorem h_139 {S : Sh} (h : ShOK S) : S[139]? = some (13, 900) := sh_kd h (a := 139) (k := 13) rfl (by decide)
theorem h_140 {S : Sh} (h : ShOK S) : S[140]? = some (13, 8) := sh_kd h (a := 140) (k := 13) rfl (by decide)
theorem h_141 {S : Sh} (h : ShOK S) : S[141]? = some (13, 186) := sh_kd h (a := 141) (k := 13) rfl (by decide)
theorem h_142 {S : Sh} (h : ShOK S) : S[142]? = some (13, 186) := sh_kd h (a := 142) (k := 13) rfl (by decide)
theorem h_143 {S : Sh} (h : ShOK S) : S[143]? = some (13, 62) := sh_kd h (a := 143) (k := 13) rfl (by decide)
theorem h_144 {S : Sh} (h : ShOK S) : S[144]? = some (13, 62) := sh_kd h (a := 144) (k := 13) rfl (by decide)
theorem h_145 {S : Sh} (h : ShOK S) : S[145]? = some (13, 992) := sh_kd h (a := 145) (k := 13) rfl (by decide)
theorem h_146 {S : Sh} (h : ShOK S) : S[146]? = some (13, 186) := sh_kd h (a := 146) (k := 13) rfl (by decide)
theorem h_147 {S : Sh} (h : ShOK S) : S[147]? = some (13, 30) := sh_kd h (a := 147) (k := 13) rfl (by decide)
theorem h_148 {S : Sh} (h : ShOK S) : S[148]? = some (13, 30) := sh_kd h (a := 148) (k := 13) rfl (by decide)
theorem h_149 {S : Sh} (h : ShOK S) : S[149]? = some (13, 60) := sh_kd h (a := 149) (k := 13) rfl (by decide)
theorem h_150 {S : Sh} (h : ShOK S) : S[150]? = some (13, 60) := sh_kd h (a := 150) (k := 13) rfl (by decide)
theorem h_151 {S : Sh} (h : ShOK S) : S[151]? = some (13, 120) := sh_kd h (a := 151) (k := 13) rfl (by decide)
theorem h_152 {S : Sh} (h : ShOK S) : S[152]? = some (13, 4) := sh_kd h (a := 152) (k := 13) rfl (by decide)
theorem h_153 {S : Sh} (h : ShOK S) : S[153]? = some (13, 384) := sh_kd h (a := 153) (k := 13) rfl (by decide)
theorem h_154 {S : Sh} (h : ShOK S) : S[154]? = some (13, 60) := sh_kd h (a := 154) (k := 13) rfl (by decide)
theorem h_155 {S : Sh} (h : ShOK S) : S[155]? = some (13, 6) := sh_kd h (a := 155) (k := 13) rfl (by decide)
theorem h_156 {S : Sh} (h : ShOK S) : S[156]? = some (13, 6) := sh_kd h (a := 156) (k := 13) rfl (by decide)
theorem h_157 {S : Sh} (h : ShOK S) : S[157]? = some (13, 36) := sh_kd h (a := 157) (k := 13) rfl (by decide)
theorem h_158 {S : Sh} (h : ShOK S) : S[158]? = some (14, 1) := sh_kd h (a := 158) (k := 14) rfl (by decide)
theorem iv_0_0 {m : Me} (h : Inv m) : m.2 0 0 = some 1 := iv h _ _ _ (by decide +kernel)
theorem iv_0_1 {m : Me} (h : Inv m) : m.2 0 1 = some 2 := iv h _ _ _ (by decide +kernel)
theorem iv_0_5 {m : Me} (h : Inv m) : m.2 0 5 = some 81 := iv h _ _ _ (by decide +kernel)
theorem iv_0_6 {m : Me} (h : Inv m) : m.2 0 6 = some 83 := iv h _ _ _ (by decide +kernel)
theorem iv_0_8 {m : Me} (h : Inv m) : m.2 0 8 = some 84 := iv h _ _ _ (by decide +kernel)
theorem iv_0_9 {m : Me} (h : Inv m) : m.2 0 9 = some 88 := iv h _ _ _ (by decide +kernel)
theorem iv_0_10 {m : Me} (h : Inv m) : m.2 0 10 = some 91 := iv h _ _ _ (by decide +kernel)
theorem iv_0_11 {m : Me} (h : Inv m) : m.2 0 11 = some 94 := iv h _ _ _ (by decide +kernel)
theorem iv_0_12 {m : Me} (h : Inv m) : m.2 0 12 = some 96 := iv h _ _ _ (by decide +kernel)
theorem iv_0_13 {m : Me} (h : Inv m) : m.2 0 13 = some 123 := iv h _ _ _ (by decide +kernel)
theorem iv_0_14 {m : Me} (h : Inv m) : m.2 0 14 = some 127 := iv h _ _ _ (by decide +kernel)
theorem iv_0_15 {m : Me} (h : Inv m) : m.2 0 15 = some 131 := iv h _ _ _ (by decide +kernel)
theorem iv_1_0 {m : Me} (h : Inv m) : m.2 1 0 = some 2 := iv h _ _ _ (by decide +kernel)
theorem iv_84_0 {m : Me} (h : Inv m) : m.2 84 0 = some 85 := iv h _ _ _ (by decide +kernel)
theorem iv_84_1 {m : Me} (h : Inv m) : m.2 84 1 = some 86 := iv h _ _ _ (by decide +kernel)
theorem iv_84_2 {m : Me} (h : Inv m) : m.2 84 2 = some 87 := iv h _ _ _ (by decide +kernel)
theorem iv_94_0 {m : Me} (h : Inv m) : m.2 94 0 = some 95 := iv h _ _ _ (by decide +kernel)
theorem iv_96_0 {m : Me} (h : Inv m) : m.2 96 0 = some 97 := iv h _ _ _ (by decide +kernel)
theorem iv_96_1 {m : Me} (h : Inv m) : m.2 96 1 = some 98 := iv h _ _ _ (by decide +kernel)
theorem iv_96_3 {m : Me} (h : Inv m) : m.2 96 3 = some 99 := iv h _ _ _ (by decide +kernel)
theorem iv_96_4 {m : Me} (h : Inv m) : m.2 96 4 = some 100 := iv h _ _ _ (by decide +kernel)
theorem iv_96_5 {m : Me} (h : Inv m) : m.2 96 5 = some 101 := iv h _ _ _ (by decide +kernel)
theorem iv_96_6 {m : Me} (h : Inv m) : m.2 96 6 = some 102 := iv h _ _ _ (by decide +kernel)
theorem iv_123_0 {m : Me} (h : Inv m) : m.2 123 0 = some 124 := iv h _ _ _ (by decide +kernel)
theorem iv_123_1 {m : Me} (h : Inv m) : m.2 123 1 = some 125 := iv h _ _ _ (by decide +kernel)
theorem iv_123_2 {m : Me} (h : Inv m) : m.2 123 2 = some 126 := iv h _ _ _ (by decide +kernel)
theorem iv_127_0 {m : Me} (h : Inv m) : m.2 127 0 = some 128 := iv h _ _ _ (by decide +kernel)
theorem iv_127_1 {m : Me} (h : Inv m) : m.2 127 1 = some 129 := iv h _ _ _ (by decide +kernel)
theorem iv_127_2 {m : Me} (h : Inv m) : m.2 127 2 = some 130 := iv h _ _ _ (by decide +kernel)
theorem iv_138_1 {m : Me} (h : Inv m) : m.2 138 1 = some 139 := iv h _ _ _ (by decide +kernel)
theorem iv_138_12 {m : Me} (h : Inv m) : m.2 138 12 = some 140 := iv h _ _ _ (by decide +kernel)
theorem iv_138_15 {m : Me} (h : Inv m) : m.2 138 15 = some 141 := iv h _ _ _ (by decide +kernel)
theorem iv_138_16 {m : Me} (h : Inv m) : m.2 138 16 = some 142 := iv h _ _ _ (by decide +kernel)
theorem iv_138_17 {m : Me} (h : Inv m) : m.2 138 17 = some 143 := iv h _ _ _ (by decide +kernel)
theorem iv_138_18 {m : Me} (h : Inv m) : m.2 138 18 = some 144 := iv h _ _ _ (by decide +kernel)
theorem iv_138_19 {m : Me} (h : Inv m) : m.2 138 19 = some 145 := iv h _ _ _ (by decide +kernel)
theorem iv_138_20 {m : Me} (h : Inv m) : m.2 138 20 = some 146 := iv h _ _ _ (by decide +kernel)
theorem iv_138_23 {m : Me} (h : Inv m) : m.2 138 23 = some 147 := iv h _ _ _ (by decide +kernel)
theorem iv_138_24 {m : Me} (h : Inv m) : m.2 138 24 = some 148 := iv h _ _ _ (by decide +kernel)
theorem iv_138_27 {m : Me} (h : Inv m) : m.2 138 27 = some 149 := iv h _ _ _ (by decide +kernel)
theorem iv_138_28 {m : Me} (h : Inv m) : m.2 138 28 = some 150 := iv h _ _ _ (by decide +kernel)
theorem iv_138_29 {m : Me} (h : Inv m) : m.2 138 29 = some 151 := iv h _ _ _ (by decide +kernel)
theorem iv_138_30 {m : Me} (h : Inv m) : m.2 138 30 = some 152 := iv h _ _ _ (by decide +kernel)
theorem iv_138_32 {m : Me} (h : Inv m) : m.2 138 32 = some 153 := iv h _ _ _ (by decide +kernel)
theorem iv_138_33 {m : Me} (h : Inv m) : m.2 138 33 = some 154 := iv h _ _ _ (by decide +kernel)
theorem iv_138_34 {m : Me} (h : Inv m) : m.2 138 34 = some 155 := iv h _ _ _ (by decide +kernel)
theorem iv_138_35 {m : Me} (h : Inv m) : m.2 138 35 = some 156 := iv h _ _ _ (by decide +kernel)
theorem iv_138_36 {m : Me} (h : Inv m) : m.2 138 36 = some 157 := iv h _ _ _ (by decide +kernel)
def FU : Nat := 2000
def ck {α : Type} (p : Prop) [Decidable p] (e : Option α) : Option α := if p then e else none
theorem ck_some {α : Type} {p : Prop} [Decidable p] {e : Option α} {r : α} (h : ck p e = some r) : p ∧ e = some r := by
  unfold ck at h
  by_cases hp : p
  · rw [if_pos hp] at h; exact ⟨hp, h⟩
  · rw [if_neg hp] at h; cases h
theorem ck_pos {α : Type} {p : Prop} [Decidable p] {e : Option α} (h : p) : ck p e = e := if_pos h
def cl2 {α β : Type} (x : Option (α × Me)) (k : α → Me → Option β) : Option β := match x with
  | some q => k q.1 q.2
  | none => none
theorem cl2_some {α β : Type} {x : Option (α × Me)} {k : α → Me → Option β} {r : β} (h : cl2 x k = some r) : ∃ a m, x = some (a, m) ∧ k a m = some r := by
  cases x with
  | none => cases h
  | some q => exact ⟨q.1, q.2, rfl, h⟩
def cl1 {β : Type} (x : Option Me) (k : Me → Option β) : Option β := match x with
  | some q => k q
  | none => none
theorem cl1_some {β : Type} {x : Option Me} {k : Me → Option β} {r : β} (h : cl1 x k = some r) : ∃ m, x = some m ∧ k m = some r := by
  cases x with
  | none => cases h
  | some q => exact ⟨q, rfl, h⟩
theorem ite_pos {α : Type} {p : Prop} [Decidable p] {a b : Option α} {r : α} (hp : p) (h : (if p then a else b) = some r) : a = some r := by rw [if_pos hp] at h; exact h
theorem ite_neg {α : Type} {p : Prop} [Decidable p] {a b : Option α} {r : α} (hp : ¬ p) (h : (if p then a else b) = some r) : b = some r := by rw [if_neg hp] at h; exact h
theorem pD_I : parseFieldDescriptor "I" = some .int := by decide +kernel
theorem pD_Z : parseFieldDescriptor "Z" = some .boolean := by decide +kernel
theorem nf_I (x : Int32) : narrow .int (.int x) = .int x ∧ fits .int (.int x) = true := ⟨rfl, rfl⟩
theorem nf_Z {x : Int32} (h : x = 0 ∨ x = 1) : narrow .boolean (.int x) = .int x ∧ fits .boolean (.int x) = true := by rcases h with rfl | rfl <;> decide
theorem lc_max {X : String} {ix : Nat} (h : inT (.methodLink X ix Lib.Math.max.name)) : inT (.methodLink X ix Lib.Math.max.name) ∧ inT (.static Lib.Math.max.name) ∧ inT (.code Lib.Math.max.name Lib.Math.max.code 2 (some .int)) ∧ inT (.initialized "java/lang/Math") := ⟨h, lm_sa_max, lm_cd_max, lm_ini⟩
theorem lc_min {X : String} {ix : Nat} (h : inT (.methodLink X ix Lib.Math.min.name)) : inT (.methodLink X ix Lib.Math.min.name) ∧ inT (.static Lib.Math.min.name) ∧ inT (.code Lib.Math.min.name Lib.Math.min.code 2 (some .int)) ∧ inT (.initialized "java/lang/Math") := ⟨h, lm_sa_min, lm_cd_min, lm_ini⟩
theorem lc_copy {X : String} {ix : Nat} (h : inT (.methodLink X ix arraycopyName)) : inT (.methodLink X ix arraycopyName) ∧ inT (.native arraycopyName) ∧ inT (.static arraycopyName) ∧ inT (.initialized "java/lang/System") := ⟨h, nat_copy, sa_copy, ini_sys⟩
