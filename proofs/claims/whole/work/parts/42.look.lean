/-! The class's row: what it lays when it looks. -/
def rowM (m : Me) (a0 : Nat) (C LT : List Nat) : Me := setI (wl (wl m (a0 + 1) 0 C) (a0 + 2) 0 LT) a0 2 (nI C.length)
theorem rowM_len (m : Me) (a0 : Nat) (C LT : List Nat) : (rowM m a0 C LT).1 a0 2 = nI C.length := sI_eq _ _ _ _
theorem rowM_na {m : Me} {a0 : Nat} {C LT : List Nat} {b k : Nat} (h0 : b ≠ a0) (h1 : b ≠ a0 + 1) (h2 : b ≠ a0 + 2) : (rowM m a0 C LT).1 b k = m.1 b k := by
  unfold rowM
  rw [sI_na h0, wl_na h2, wl_na h1]
theorem rowM_cell {m : Me} {a0 : Nat} {C LT : List Nat} {k : Nat} (h : k < C.length) : (rowM m a0 C LT).1 (a0 + 1) k = nI (C.getD k 0) := by
  unfold rowM
  rw [sI_na (by omega), wl_na (by omega), wl_at h]
theorem rowM_let {m : Me} {a0 : Nat} {C LT : List Nat} {k : Nat} (h : k < LT.length) : (rowM m a0 C LT).1 (a0 + 2) k = nI (LT.getD k 0) := by
  unfold rowM
  rw [sI_na (by omega), wl_at h]
theorem rowM_2 (m : Me) (a0 : Nat) (C LT : List Nat) : (rowM m a0 C LT).2 = m.2 := rfl
theorem wl_snoc (m : Me) (a x : Nat) (l : List Nat) : setI (wl m a 0 l) a l.length (nI x) = wl m a 0 (l ++ [x]) := by
  have e := wl_app m a 0 l [x]
  rw [Nat.zero_add] at e
  rw [← e]
  have e2 := wl_cons (wl m a 0 l) a l.length x []
  rw [wl_nil] at e2
  exact e2
theorem rowM_snoc {m : Me} {a0 x y : Nat} {C LT : List Nat} (h : LT.length = C.length) : setI (setI (setI (rowM m a0 C LT) (a0 + 1) C.length (nI x)) (a0 + 2) C.length (nI y)) a0 2 (nI (C.length + 1)) = rowM m a0 (C ++ [x]) (LT ++ [y]) := by
  unfold rowM
  have e0 : (C ++ [x]).length = C.length + 1 := by simp
  rw [e0, ← wl_snoc m (a0 + 1) x C, ← wl_snoc _ (a0 + 2) y LT, h]
  rw [wl_setI (by omega)]
  refine me_ext (fun b k => ?_) (fun _ _ => rfl)
  simp only [sI_1]
  by_cases hb : b = a0 ∧ k = 2
  · simp only [hb, and_self, if_true]
  · by_cases hb2 : b = a0 + 2 ∧ k = C.length
    · simp only [hb, hb2, and_self, if_true, if_false]
    · by_cases hb3 : b = a0 + 1 ∧ k = C.length
      · simp only [hb, hb2, hb3, and_self, if_true, if_false]
      · simp only [hb, hb2, hb3, if_false]
theorem fX10_cellIndex_e (side cell : Nat) (m : Me) : fX10_cellIndex (nI side) (nI cell) m = some (nI (side * 30 + cell), m) := by
  unfold fX10_cellIndex
  have : (30 : Int32) = nI 30 := rfl
  rw [this, pk_mul, nI_add]
theorem fX5_letterOf_e {m : Me} {a side cell v : Nat} (h : side * 30 + cell < 60) (hv : m.1 (a + 1) (side * 30 + cell) = nI v) : fX5_letterOf a (nI side) (nI cell) m = some (nI v, m) := by
  unfold fX5_letterOf fX5_letterOf_30
  rw [cl2_e (fX10_cellIndex_e side cell m), if_neg (nI_pos (by omega)), if_pos (show nI (side * 30 + cell) < 60 from nI_lt (b := 60) h (by decide)), ck_pos ((z_inb (by omega)).mpr h), nI_clamp (by omega), hv]
/-- the class's cell of a code, its letters -/
def z_cc (r : Nat → Nat) (code : Nat) : Nat := r 1 * (code / 3) + code % 3
theorem kdne {a b k l : Nat} (ha : kd a = k) (hb : kd b = l) (h : k ≠ l) : a ≠ b := fun e => h (by rw [← ha, ← hb, e])
theorem addC {a0 a1 side : Nat} (h0 : kd a0 = 7) (h1 : kd a1 = 5) {m : Me} {V : Nat → Nat} {b : Nat} : ∀ (j cell n : Nat) (C LT : List Nat), cell + j = b → C.length + j ≤ 30 → LT.length = C.length → j < n → (∀ x, cell ≤ x → x < b → side * 30 + x < 60 ∧ m.1 (a1 + 1) (side * 30 + x) = nI (V x)) → b < 1000 → fX7_addCells_3 n a0 a1 (nI side) (nI b) (nI cell) (rowM m a0 C LT) = some (rowM m a0 (C ++ (List.range j).map (fun i => cell + i)) (LT ++ (List.range j).map (fun i => V (cell + i)))) := by
  have g1 : kd (a0 + 1) = 13 := (kd7a h0).1
  have g2 : kd (a0 + 2) = 13 := (kd7b h0).1
  have g3 : kd (a1 + 1) = 13 := (kd5 h1).1
  have n1 : a1 + 1 ≠ a0 := kdne g3 h0 (by decide)
  have n2 : a1 + 1 ≠ a0 + 1 := by have := kdne h1 h0 (by decide); omega
  have n3 : a1 + 1 ≠ a0 + 2 := by have := kdne h1 g1 (by decide); omega
  intro j
  induction j with
  | zero =>
    intro cell n C LT hb hC hL hn hV hb9
    obtain ⟨n, rfl⟩ : ∃ k, n = k + 1 := ⟨n - 1, by omega⟩
    unfold fX7_addCells_3 fX7_addCells_65
    rw [if_pos (nI_le (by omega) (by omega))]
    simp
  | succ j ih =>
    intro cell n C LT hb hC hL hn hV hb9
    obtain ⟨n, rfl⟩ : ∃ k, n = k + 1 := ⟨n - 1, by omega⟩
    obtain ⟨hx1, hx2⟩ := hV cell (Nat.le_refl _) (by omega)
    unfold fX7_addCells_3
    rw [if_neg (nI_ge (by omega) (by omega)), rowM_len, if_neg (show ¬ (30 : Int32) ≤ nI C.length from nI_ge (b := 30) (by omega) (by decide)), ck_pos ((z_inb (by omega)).mpr (by omega)), nI_clamp (by omega)]
    have e1 : (setI (rowM m a0 C LT) (a0 + 1) C.length (nI cell)).1 (a1 + 1) (side * 30 + cell) = nI (V cell) := by
      rw [sI_na n2, rowM_na n1 n2 n3]
      exact hx2
    have e2 : (setI (rowM m a0 C LT) (a0 + 1) C.length (nI cell)).1 a0 2 = nI C.length := by
      rw [sI_na (by omega), rowM_len]
    rw [cl2_e (fX5_letterOf_e hx1 e1), e2, ck_pos ((z_inb (by omega)).mpr (by omega)), nI_clamp (by omega)]
    have e3 : (setI (setI (rowM m a0 C LT) (a0 + 1) C.length (nI cell)) (a0 + 2) C.length (nI (V cell))).1 a0 2 = nI C.length := by
      rw [sI_na (by omega), e2]
    rw [e3, nI_1, nI_1, rowM_snoc hL, ih (cell + 1) n (C ++ [cell]) (LT ++ [V cell]) (by omega) (by simp; omega) (by simp [hL]) (by omega) (fun x g1 g2 => hV x (by omega) g2) hb9]
    have r1 : (List.range (j + 1)).map (fun i => cell + i) = cell :: (List.range j).map (fun i => cell + 1 + i) := by
      rw [List.range_succ_eq_map, List.map_cons, List.map_map]
      congr 1
      apply List.map_congr_left
      intro i _
      show cell + (i + 1) = cell + 1 + i
      omega
    have r2 : (List.range (j + 1)).map (fun i => V (cell + i)) = V cell :: (List.range j).map (fun i => V (cell + 1 + i)) := by
      rw [List.range_succ_eq_map, List.map_cons, List.map_map]
      congr 1
      apply List.map_congr_left
      intro i _
      show V (cell + (i + 1)) = V (cell + 1 + i)
      congr 1
      omega
    rw [r1, r2, List.append_assoc, List.append_assoc]
    rfl
/-- the class's fan: its sizes -/
def CF (m : Me) (t : Nat) (r : Nat → Nat) : Prop := m.1 t 0 = nI (r 0) ∧ m.1 t 1 = nI (r 1) ∧ m.1 t 3 = nI (r 3)
/-- a painting of the class, by the reference's places -/
def CP (m : Me) (p : Nat) (r s : Nat → Nat) : Prop := ∀ side rib c, side ≤ 1 → rib < r 0 → c < r 1 → m.1 (p + 1) (side * 30 + (r 1 * rib + c)) = nI (s (30 * side + (3 * rib + c)))
theorem fX2_openCells_e {m : Me} {t : Nat} {r : Nat → Nat} (h : CF m t r) (hf : z_fan r) {side k op : Nat} (hs : side ≤ 1) (hk : k < r 0) (ho : op ≤ z_mo r) : fX2_openCells t (nI side) (nI (z_rib r side k)) (nI op) m = some (nI (z_op r k (z_rib r side k) op), m) := by
  obtain ⟨e0, e1, e3⟩ := h
  have hmo := z_mo_le hf
  obtain ⟨h1, h2, h4, h5, h6⟩ := hf
  have hr := z_rib_lt (r := r) (side := side) hk
  have hm : r 1 * z_rib r side k ≤ 3 * 9 := Nat.mul_le_mul h5 (by omega)
  have key : ∀ q : Nat, q < 10 → (z_rib r side k = q ↔ k = r 0 - 1) → fX2_openCells_14 t (nI (z_rib r side k)) (nI op) (nI q) m = some (nI (z_op r k (z_rib r side k) op), m) := by
    intro q hq hiff
    unfold fX2_openCells_14 fX2_openCells_57
    rw [e1, e3]
    unfold z_op
    by_cases hl : k = r 0 - 1
    · rw [if_pos (by rw [hiff.mpr hl]), if_pos hl]
    · rw [if_neg (fun z => hl (hiff.mp ((nI_eq (by omega) (by omega)).mp z))), if_neg hl]
      by_cases h0 : r 3 = 0
      · rw [if_pos (by rw [h0]; rfl), if_pos h0]
      · rw [if_neg (by rw [show r 3 = 1 by omega]; decide), if_neg h0, pk_mul]
        by_cases hle : r 1 * z_rib r side k ≤ op
        · rw [pk_sub hle]
          by_cases hc : op - r 1 * z_rib r side k < r 1
          · have hspec : (if op - r 1 * z_rib r side k ≤ r 1 then op - r 1 * z_rib r side k else r 1) = op - r 1 * z_rib r side k := if_pos (Nat.le_of_lt hc)
            rw [if_pos (nI_lt hc (by omega)), hspec]
            by_cases hz : op - r 1 * z_rib r side k = 0
            · rw [hz, if_neg (show ¬ (0 : Int32) < nI 0 by decide)]; rfl
            · rw [if_pos (show (0 : Int32) < nI (op - r 1 * z_rib r side k) from nI_lt (a := 0) (by omega) (by omega))]
          · rw [if_neg (nI_nlt (by omega) (by omega)), if_pos (show (0 : Int32) < nI (r 1) from nI_lt (a := 0) (by omega) (by omega))]
            by_cases hc2 : op - r 1 * z_rib r side k ≤ r 1
            · rw [if_pos hc2]
              congr 3
              omega
            · rw [if_neg hc2]
        · have hlt : nI op - nI (r 1 * z_rib r side k) < 0 := pk_sneg (by omega) (by omega)
          have hlt2 : nI op - nI (r 1 * z_rib r side k) < nI (r 1) := by
            have : (0 : Int32) < nI (r 1) := nI_lt (a := 0) (by omega) (by omega)
            exact Int32.lt_trans hlt this
          rw [if_pos hlt2, if_neg (Int32.not_lt.mpr (Int32.le_of_lt hlt)), show op - r 1 * z_rib r side k = 0 by omega, if_pos (Nat.zero_le _)]
          rfl
  unfold fX2_openCells
  by_cases h0 : side = 0
  · subst h0
    rw [if_pos (show nI 0 = 0 from rfl), e0, z_sub1 (by omega)]
    exact key _ (by omega) (by simp [z_rib])
  · have hs1 : side = 1 := by omega
    subst hs1
    rw [if_neg (show ¬ nI 1 = 0 by decide)]
    exact key 0 (by omega) (by show (if (1 : Nat) = 0 then k else r 0 - 1 - k) = 0 ↔ _; rw [if_neg (by decide)]; omega)
theorem look8 {a0 a1 a2 : Nat} (h0 : kd a0 = 7) (h1 : kd a1 = 2) (h2 : kd a2 = 5) {m : Me} {r s : Nat → Nat} (hf : z_fan r) (hF : CF m a1 r) (hP : CP m a2 r s) {side op br : Nat} (hs : side ≤ 1) (ho : op ≤ z_mo r) (hb : br < 2 ^ 31) : ∀ (j k n : Nat) (l : List Nat), k + j = r 0 → l.length ≤ 3 * k → j < n → fX7_look_8 n a0 a1 a2 (nI br) (nI side) (nI op) (nI k) (rowM m a0 (l.map (z_cc r)) (l.map (fun c => s (30 * side + c)))) = some (rowM m a0 ((l ++ z_from r side op br j k).map (z_cc r)) ((l ++ z_from r side op br j k).map (fun c => s (30 * side + c)))) := by
  have g1 : kd (a0 + 1) = 13 := (kd7a h0).1
  have g2 : kd (a0 + 2) = 13 := (kd7b h0).1
  have n0 : a1 ≠ a0 := kdne h1 h0 (by decide)
  have n1 : a1 ≠ a0 + 1 := kdne h1 g1 (by decide)
  have n2 : a1 ≠ a0 + 2 := kdne h1 g2 (by decide)
  intro j
  induction j with
  | zero =>
    intro k n l hk hl hn
    obtain ⟨n, rfl⟩ : ∃ q, n = q + 1 := ⟨n - 1, by omega⟩
    unfold fX7_look_8
    rw [rowM_na n0 n1 n2, hF.1, if_pos (nI_le (by omega) (by have := hf.2.1; omega))]
    simp [z_from]
  | succ j ih =>
    intro k n l hk hl hn
    obtain ⟨n, rfl⟩ : ∃ q, n = q + 1 := ⟨n - 1, by omega⟩
    have hR := hf.2.1
    have hrib := z_rib_lt (r := r) (side := side) (k := k) (by omega)
    generalize hM : rowM m a0 (l.map (z_cc r)) (l.map (fun c => s (30 * side + c))) = M
    have hFM : CF M a1 r := by
      rw [← hM]
      exact ⟨(rowM_na n0 n1 n2).trans hF.1, (rowM_na n0 n1 n2).trans hF.2.1, (rowM_na n0 n1 n2).trans hF.2.2⟩
    have step : fX7_look_36 (fX7_look_8 n) a0 a1 a2 (nI br) (nI side) (nI op) (nI k) (nI (z_rib r side k)) M = fX7_look_8 n a0 a1 a2 (nI br) (nI side) (nI op) (nI (k + 1)) (rowM m a0 ((l ++ z_seg r side op br k).map (z_cc r)) ((l ++ z_seg r side op br k).map (fun c => s (30 * side + c)))) := by
      unfold fX7_look_36 fX7_look_78
      rw [z_bit hb (by omega)]
      unfold z_seg
      cases hbit : br.testBit (z_rib r side k)
      · simp only [Bool.false_eq_true, if_false]
        rw [if_pos (show nI 0 = 0 from rfl), cl2_e (fX2_openCells_e hFM hf hs (by omega) ho), hFM.2.1, pk_mul, nI_add]
        have hop := z_op_le hf (k := k) (rib := z_rib r side k) ho
        have hW := hf.2.2.2.1
        generalize z_op r k (z_rib r side k) op = q at hop ⊢
        generalize z_rib r side k = rib at hrib ⊢
        have hmul : r 1 * rib ≤ 3 * 9 := Nat.mul_le_mul hW (by omega)
        have hmul2 : r 1 * rib + r 1 ≤ 30 := by
          have : r 1 * (rib + 1) ≤ 3 * 10 := Nat.mul_le_mul hW (by omega)
          rw [Nat.mul_succ] at this
          exact this
        have hadd : fX7_addCells a0 a2 (nI side) (nI (r 1 * rib)) (nI (r 1 * rib + q)) M = some (rowM m a0 (l.map (z_cc r) ++ (List.range q).map (fun i => r 1 * rib + i)) (l.map (fun c => s (30 * side + c)) ++ (List.range q).map (fun i => s (30 * side + (3 * rib + i))))) := by
          unfold fX7_addCells
          rw [← hM]
          have := addC h0 h2 (side := side) (m := m) (V := fun x => s (30 * side + (3 * rib + (x - r 1 * rib)))) (b := r 1 * rib + q) q (r 1 * rib) FU (l.map (z_cc r)) (l.map (fun c => s (30 * side + c))) rfl (by rw [List.length_map]; omega) (by simp) (FU_pos (by omega)) (fun x x1 x2 => ⟨by omega, by
            have h3 := hP side rib (x - r 1 * rib) hs hrib (by omega)
            rw [show r 1 * rib + (x - r 1 * rib) = x by omega] at h3
            exact h3⟩) (by omega)
          rw [this]
          congr 3
          apply List.map_congr_left
          intro i _
          show s (30 * side + (3 * rib + (r 1 * rib + i - r 1 * rib))) = _
          rw [Nat.add_sub_cancel_left]
        rw [cl1_e hadd, nI_1]
        congr 1
        rw [List.map_append, List.map_append, List.map_map, List.map_map]
        congr 2
        apply List.map_congr_left
        intro i hi
        have := List.mem_range.mp hi
        show r 1 * rib + i = r 1 * ((3 * rib + i) / 3) + (3 * rib + i) % 3
        rw [show (3 * rib + i) / 3 = rib by omega, show (3 * rib + i) % 3 = i by omega]
      · simp only [if_true, List.append_nil]
        rw [if_neg (show ¬ nI 1 = 0 by decide), nI_1, hM]
    have goal2 : fX7_look_8 (n + 1) a0 a1 a2 (nI br) (nI side) (nI op) (nI k) M = fX7_look_36 (fX7_look_8 n) a0 a1 a2 (nI br) (nI side) (nI op) (nI k) (nI (z_rib r side k)) M := by
      rw [fX7_look_8]
      rw [hFM.1, if_neg (nI_ge (by omega) (by omega))]
      by_cases hz : side = 0
      · subst hz
        rw [if_pos (show nI 0 = 0 from rfl)]
        simp [z_rib]
      · have hs1 : side = 1 := by omega
        subst hs1
        rw [if_neg (show ¬ nI 1 = 0 by decide), z_sub1 (by omega), pk_sub (by omega)]
        simp [z_rib]
    rw [goal2, step, ih (k + 1) n _ (by omega) ?_ (by omega)]
    · have e9 : l ++ z_from r side op br (j + 1) k = (l ++ z_seg r side op br k) ++ z_from r side op br j (k + 1) := by rw [List.append_assoc]; rfl
      rw [e9]
    · have := z_seg_len hf (side := side) (br := br) (k := k) ho
      rw [List.length_append]
      omega
theorem fX7_look_e {a0 a1 a2 : Nat} (h0 : kd a0 = 7) (h1 : kd a1 = 2) (h2 : kd a2 = 5) {m : Me} {r s : Nat → Nat} (hf : z_fan r) (hF : CF m a1 r) (hP : CP m a2 r s) {side op br : Nat} (hs : side ≤ 1) (ho : op ≤ z_mo r) (hb : br < 2 ^ 31) : fX7_look a0 a1 a2 (nI br) (nI side) (nI op) m = some (rowM m a0 ((z_show r side op br).map (z_cc r)) ((z_show r side op br).map (fun c => s (30 * side + c)))) := by
  have := look8 h0 h1 h2 hf hF hP hs ho hb (r 0) 0 FU [] (by omega) (by simp) (FU_pos (by have := hf.2.1; omega))
  have e : rowM m a0 ([].map (z_cc r)) ([].map (fun c => s (30 * side + c))) = setI m a0 2 0 := by
    unfold rowM
    simp only [List.map_nil, wl_nil]
    rfl
  rw [e] at this
  exact this
