/-! What shows: the list of cells (3 times the rib, and the number), by the table r of the fan; both programs lay it. -/
def z_mo (r : Nat → Nat) : Nat := if r 3 = 1 then r 1 * (r 0 - 1) else r 1
def z_rib (r : Nat → Nat) (side k : Nat) : Nat := if side = 0 then k else r 0 - 1 - k
def z_op (r : Nat → Nat) (k rib op : Nat) : Nat := if k = r 0 - 1 then r 1 else if r 3 = 0 then op else if op - r 1 * rib ≤ r 1 then op - r 1 * rib else r 1
def z_seg (r : Nat → Nat) (side op br k : Nat) : List Nat := if br.testBit (z_rib r side k) then [] else (List.range (z_op r k (z_rib r side k) op)).map (fun c => 3 * z_rib r side k + c)
def z_from (r : Nat → Nat) (side op br : Nat) : Nat → Nat → List Nat
  | 0, _ => []
  | n + 1, k => z_seg r side op br k ++ z_from r side op br n (k + 1)
def z_show (r : Nat → Nat) (side op br : Nat) : List Nat := z_from r side op br (r 0) 0
/-- the sizes of a fan -/
def z_fan (r : Nat → Nat) : Prop := 2 ≤ r 0 ∧ r 0 ≤ 10 ∧ 1 ≤ r 1 ∧ r 1 ≤ 3 ∧ r 3 ≤ 1
theorem z_mo_le {r : Nat → Nat} (h : z_fan r) : z_mo r ≤ 27 := by
  obtain ⟨h1, h2, h3, h4, h5⟩ := h
  unfold z_mo
  split
  · have : r 1 * (r 0 - 1) ≤ 3 * 9 := Nat.mul_le_mul h4 (by omega)
    omega
  · omega
theorem z_op_le {r : Nat → Nat} (h : z_fan r) {k rib op : Nat} (ho : op ≤ z_mo r) : z_op r k rib op ≤ r 1 := by
  obtain ⟨h1, h2, h3, h4, h5⟩ := h
  unfold z_op
  unfold z_mo at ho
  split
  · exact Nat.le_refl _
  · split
    · rename_i h0
      rw [if_neg (by omega)] at ho
      exact ho
    · split <;> omega
theorem z_rib_lt {r : Nat → Nat} {side k : Nat} (hk : k < r 0) : z_rib r side k < r 0 := by
  unfold z_rib
  split <;> omega
theorem z_seg_len {r : Nat → Nat} (h : z_fan r) {side op br k : Nat} (ho : op ≤ z_mo r) : (z_seg r side op br k).length ≤ 3 := by
  unfold z_seg
  split
  · simp
  · rw [List.length_map, List.length_range]
    have := z_op_le h (k := k) (rib := z_rib r side k) ho
    have := h.2.2.2.1
    omega
theorem z_from_len {r : Nat → Nat} (h : z_fan r) {side op br : Nat} (ho : op ≤ z_mo r) : ∀ n k, (z_from r side op br n k).length ≤ 3 * n
  | 0, _ => by simp [z_from]
  | n + 1, k => by
    have h1 := z_from_len h (side := side) (br := br) ho n (k + 1)
    have h2 := z_seg_len h (side := side) (br := br) (k := k) ho
    show (z_seg r side op br k ++ z_from r side op br n (k + 1)).length ≤ _
    rw [List.length_append]
    omega
theorem z_show_len {r : Nat → Nat} (h : z_fan r) {side op br : Nat} (ho : op ≤ z_mo r) : (z_show r side op br).length ≤ 30 := by
  have := z_from_len h (side := side) (br := br) ho (r 0) 0
  have := h.2.1
  unfold z_show
  omega
theorem z_seg_lt {r : Nat → Nat} (h : z_fan r) {side op br k : Nat} (ho : op ≤ z_mo r) (hk : k < r 0) : ∀ c ∈ z_seg r side op br k, c < 30 := by
  intro c hc
  unfold z_seg at hc
  split at hc
  · simp at hc
  · obtain ⟨d, hd, rfl⟩ := List.mem_map.mp hc
    have h1 := List.mem_range.mp hd
    have h2 := z_op_le h (k := k) (rib := z_rib r side k) ho
    have h3 := z_rib_lt (side := side) hk
    have := h.2.1
    have := h.2.2.2.1
    omega
theorem z_from_lt {r : Nat → Nat} (h : z_fan r) {side op br : Nat} (ho : op ≤ z_mo r) : ∀ n k, k + n ≤ r 0 → ∀ c ∈ z_from r side op br n k, c < 30
  | 0, _, _ => by simp [z_from]
  | n + 1, k, hk => by
    intro c hc
    rcases List.mem_append.mp hc with h1 | h1
    · exact z_seg_lt h ho (by omega) c h1
    · exact z_from_lt h ho n (k + 1) (by omega) c h1
theorem z_show_lt {r : Nat → Nat} (h : z_fan r) {side op br : Nat} (ho : op ≤ z_mo r) : ∀ c ∈ z_show r side op br, c < 30 := z_from_lt h ho (r 0) 0 (by omega)
/-- bits, as both programs ask for them -/
theorem z_bit {br k : Nat} (hb : br < 2 ^ 31) (hk : k < 31) : ((nI br >>> (nI k &&& 31)) &&& 1) = nI (if br.testBit k then 1 else 0) := by
  have e1 : nI k &&& 31 = nI k := by
    have := pk_andN (n := k) (by omega) (m := 31) 5 (by decide)
    rw [this, Nat.mod_eq_of_lt (by omega)]
  have hs : ((nI k).toBitVec.smod 32).toNat = k := by
    have : ∀ k : Fin 32, ((nI k.val).toBitVec.smod 32).toNat = k.val := by decide
    exact this ⟨k, by omega⟩
  rw [e1, pk_shrN hb (nI k) k hs]
  have e2 := pk_andN (n := br / 2 ^ k) (by have := Nat.div_le_self br (2 ^ k); omega) (m := 1) 1 (by decide)
  rw [e2, Nat.testBit_eq_decide_div_mod_eq]
  congr 1
  have : br / 2 ^ k % 2 < 2 := Nat.mod_lt _ (by decide)
  by_cases h : br / 2 ^ k % 2 = 1
  · simp [h]
  · have h0 : br / 2 ^ k % 2 = 0 := by omega
    simp [h0]
/-- the reference's rows of the fan: 141 its tables, 142 those being read -/
def MR (m : Me) (a : Nat) (r : Nat → Nat) : Prop := ∀ k, k < 186 → m.1 a k = nI (r k)
theorem zln {a : Nat} (h : a = 141 ∨ a = 142) : ln a = 186 ∧ kd a = 13 := by rcases h with rfl | rfl <;> decide
theorem inb_ln {a : Nat} (h : a = 141 ∨ a = 142) {j : Nat} (hj : j < 186) : inb (nI j) (ln a) := by
  rw [(zln h).1]
  exact (z_inb (by omega)).mpr hj
theorem z_sub1 {n : Nat} (h : 1 ≤ n) : nI n - 1 = nI (n - 1) := pk_sub h
theorem inb_l0 {a : Nat} (h : a = 141 ∨ a = 142) : inb (0 : Int32) (ln a) := inb_ln h (j := 0) (by decide)
theorem inb_l1 {a : Nat} (h : a = 141 ∨ a = 142) : inb (1 : Int32) (ln a) := inb_ln h (j := 1) (by decide)
theorem inb_l3 {a : Nat} (h : a = 141 ∨ a = 142) : inb (3 : Int32) (ln a) := inb_ln h (j := 3) (by decide)
theorem fX11_has_e {br k : Nat} (hb : br < 2 ^ 31) (hk : k < 31) (m : Me) : fX11_has (nI br) (nI k) m = some (nI (if br.testBit k then 1 else 0), m) := by
  unfold fX11_has fX11_has_14
  rw [z_bit hb hk]
  cases br.testBit k
  · rfl
  · rfl
theorem fX11_mostOpen_e {m : Me} {a : Nat} {r : Nat → Nat} (ha : a = 141 ∨ a = 142) (h : MR m a r) (hf : r 1 ≤ 3 ∧ r 0 ≤ 10 ∧ 1 ≤ r 0 ∧ r 3 ≤ 1) : fX11_mostOpen a m = some (nI (z_mo r), m) := by
  unfold fX11_mostOpen fX11_mostOpen_22
  simp only [ck_pos (inb_l3 ha), ck_pos (inb_l1 ha), ck_pos (inb_l0 ha)]
  have e3 : m.1 a (3 : Int32).toNatClampNeg = nI (r 3) := h 3 (by decide)
  have e1 : m.1 a (1 : Int32).toNatClampNeg = nI (r 1) := h 1 (by decide)
  have e0 : m.1 a (0 : Int32).toNatClampNeg = nI (r 0) := h 0 (by decide)
  rw [e3, e1, e0]
  unfold z_mo
  by_cases h3 : r 3 = 1
  · rw [if_pos (by rw [h3]; rfl), if_pos h3]
    have e4 : nI (r 0) - 1 = nI (r 0 - 1) := pk_sub hf.2.2.1
    rw [e4, pk_mul]
  · have h0 : r 3 = 0 := by omega
    rw [if_neg (by rw [h0]; decide), if_neg h3]
theorem fX11_openOf_e {m : Me} {a : Nat} {r : Nat → Nat} (ha : a = 141 ∨ a = 142) (h : MR m a r) (hf : z_fan r) {k rib op : Nat} (hk : k ≠ r 0 - 1) (hr : rib < 10) (ho : op ≤ z_mo r) : fX11_openOf a (nI rib) (nI op) m = some (nI (z_op r k rib op), m) := by
  unfold fX11_openOf fX11_openOf_38
  simp only [ck_pos (inb_l3 ha), ck_pos (inb_l1 ha)]
  have e3 : m.1 a (3 : Int32).toNatClampNeg = nI (r 3) := h 3 (by decide)
  have e1 : m.1 a (1 : Int32).toNatClampNeg = nI (r 1) := h 1 (by decide)
  rw [e3, e1, pk_mul]
  have hmo := z_mo_le hf
  obtain ⟨h1, h2, h4, h5, h6⟩ := hf
  have hm : r 1 * rib ≤ 3 * 9 := Nat.mul_le_mul h5 (by omega)
  unfold z_op
  rw [if_neg hk]
  by_cases h0 : r 3 = 0
  · rw [if_pos (by rw [h0]; rfl), if_pos h0]
  · have h3 : r 3 = 1 := by omega
    rw [if_neg (by rw [h3]; decide), if_neg h0]
    by_cases hle : r 1 * rib ≤ op
    · rw [pk_sub hle, if_pos (nI_pos' (by omega))]
      by_cases hc : op - r 1 * rib ≤ r 1
      · rw [if_pos ((nI_leI (by omega) (by omega)).mpr hc), if_pos hc]
      · rw [if_neg (fun q => hc ((nI_leI (by omega) (by omega)).mp q)), if_neg hc]
    · have hlt : nI op - nI (r 1 * rib) < 0 := pk_sneg (by omega) (by omega)
      rw [if_neg (Int32.not_le.mpr hlt)]
      have e0 : op - r 1 * rib = 0 := by omega
      rw [e0, if_pos (Nat.zero_le _)]
      rfl
theorem lay74 {k6 : Nat → Int32 → Int32 → Int32 → Int32 → Int32 → Me → Option (Int32 × Me)} {a1 : Nat} {x2 x3 x4 x6 : Int32} {rib op : Nat} (hrib : rib < 10) (hop : op ≤ 3) : ∀ (j c p n : Nat) (m : Me), c + j = op → p + j ≤ 30 → j < n → fX11_lay_74 n k6 a1 x2 x3 x4 (nI p) x6 (nI rib) (nI op) (nI c) m = k6 a1 x2 x3 x4 (nI (p + j)) (x6 + 1) (wl m 147 p ((List.range j).map (fun i => 3 * rib + (c + i)))) := by
  intro j
  induction j with
  | zero =>
    intro c p n m hc hp hn
    obtain ⟨n, rfl⟩ : ∃ k, n = k + 1 := ⟨n - 1, by omega⟩
    unfold fX11_lay_74 fX11_lay_104
    rw [if_pos (nI_le (by omega) (by omega))]
    simp only [List.range_zero, List.map_nil, wl_nil, Nat.add_zero]
  | succ j ih =>
    intro c p n m hc hp hn
    obtain ⟨n, rfl⟩ : ∃ k, n = k + 1 := ⟨n - 1, by omega⟩
    unfold fX11_lay_74
    rw [if_neg (nI_ge (by omega) (by omega)), ck_pos ((z_inb (by omega)).mpr (by omega))]
    have e1 : nI p + 1 = nI (p + 1) := nI_1 p
    have e2 : nI c + 1 = nI (c + 1) := nI_1 c
    have e3 : (3 : Int32) * nI rib + nI c = nI (3 * rib + c) := by
      have : (3 : Int32) = nI 3 := rfl
      rw [this, pk_mul, nI_add]
    rw [e1, e2, e3, nI_clamp (by omega), ih (c + 1) (p + 1) n _ (by omega) (by omega) (by omega), wl_cons]
    have e7 : p + 1 + j = p + (j + 1) := by omega
    rw [e7]
    congr 2
    · rw [List.range_succ_eq_map, List.map_cons, List.map_map]
      congr 1
      apply List.map_congr_left
      intro i _
      show 3 * rib + (c + 1 + i) = 3 * rib + (c + (i + 1))
      omega
theorem lay6 {a : Nat} {r : Nat → Nat} (ha : a = 141 ∨ a = 142) (hf : z_fan r) {side op br : Nat} (hs : side ≤ 1) (ho : op ≤ z_mo r) (hb : br < 2 ^ 31) : ∀ (j k n : Nat) (l : List Nat) (m : Me), k + j = r 0 → l.length ≤ 3 * k → j < n → MR m a r → fX11_lay_6 n a (nI side) (nI op) (nI br) (nI l.length) (nI k) (wl m 147 0 l) = some (nI (l ++ z_from r side op br j k).length, wl m 147 0 (l ++ z_from r side op br j k)) := by
  intro j
  induction j with
  | zero =>
    intro k n l m hk hl hn h
    obtain ⟨n, rfl⟩ : ∃ q, n = q + 1 := ⟨n - 1, by omega⟩
    unfold fX11_lay_6
    have e0 : (wl m 147 0 l).1 a (0 : Int32).toNatClampNeg = nI (r 0) := by
      rw [wl_na (by rcases ha with rfl | rfl <;> decide)]
      exact h 0 (by decide)
    rw [ck_pos (inb_l0 ha), e0, if_pos (nI_le (by omega) (by have := hf.2.1; omega))]
    simp [z_from]
  | succ j ih =>
    intro k n l m hk hl hn h
    obtain ⟨n, rfl⟩ : ∃ q, n = q + 1 := ⟨n - 1, by omega⟩
    have hR := hf.2.1
    have hne : a ≠ 147 := by rcases ha with rfl | rfl <;> decide
    have h' : MR (wl m 147 0 l) a r := fun q hq => by rw [wl_na hne]; exact h q hq
    have e0 : (wl m 147 0 l).1 a (0 : Int32).toNatClampNeg = nI (r 0) := h' 0 (by decide)
    have e1 : (wl m 147 0 l).1 a (1 : Int32).toNatClampNeg = nI (r 1) := h' 1 (by decide)
    have hrib := z_rib_lt (r := r) (side := side) (k := k) (by omega)
    have step : fX11_lay_31 (fX11_lay_6 n) a (nI side) (nI op) (nI br) (nI l.length) (nI k) (nI (z_rib r side k)) (wl m 147 0 l) = fX11_lay_6 n a (nI side) (nI op) (nI br) (nI (l ++ z_seg r side op br k).length) (nI (k + 1)) (wl m 147 0 (l ++ z_seg r side op br k)) := by
      unfold fX11_lay_31
      rw [cl2_e (fX11_has_e hb (by omega) _)]
      have hseg := z_seg_len hf (side := side) (br := br) (k := k) ho
      unfold z_seg at hseg ⊢
      cases hbit : br.testBit (z_rib r side k)
      · rw [hbit] at hseg
        simp only [Bool.false_eq_true, if_false] at hseg ⊢
        rw [if_pos (show nI 0 = 0 from rfl), ck_pos (inb_l0 ha), e0, e1, ck_pos (inb_l1 ha)]
        have e4 : nI (r 0) - 1 = nI (r 0 - 1) := z_sub1 (by omega)
        rw [e4]
        have fin : ∀ q : Nat, q = z_op r k (z_rib r side k) op → fX11_lay_69 (fX11_lay_6 n) a (nI side) (nI op) (nI br) (nI l.length) (nI k) (nI (z_rib r side k)) (nI q) (wl m 147 0 l) = fX11_lay_6 n a (nI side) (nI op) (nI br) (nI (l ++ (List.range (z_op r k (z_rib r side k) op)).map (fun c => 3 * z_rib r side k + c)).length) (nI (k + 1)) (wl m 147 0 (l ++ (List.range (z_op r k (z_rib r side k) op)).map (fun c => 3 * z_rib r side k + c))) := by
          intro q hq
          have hq3 : q ≤ 3 := by
            rw [hq]
            have := z_op_le hf (k := k) (rib := z_rib r side k) ho
            have := hf.2.2.2.1
            omega
          unfold fX11_lay_69
          rw [show ((0 : Int32)) = nI 0 from rfl, lay74 (by omega) hq3 q 0 l.length FU _ (by omega) (by omega) (FU_pos (by omega)), nI_1]
          have e5 : (List.range q).map (fun i => 3 * z_rib r side k + (0 + i)) = (List.range (z_op r k (z_rib r side k) op)).map (fun c => 3 * z_rib r side k + c) := by
            rw [← hq]
            apply List.map_congr_left
            intro i _
            omega
          rw [e5]
          have e6 := wl_app m 147 0 l ((List.range (z_op r k (z_rib r side k) op)).map (fun c => 3 * z_rib r side k + c))
          rw [Nat.zero_add] at e6
          rw [e6]
          congr 2
          rw [List.length_append, List.length_map, List.length_range, hq]
        by_cases hlast : k = r 0 - 1
        · rw [if_pos (by rw [hlast])]
          exact fin (r 1) (by unfold z_op; rw [if_pos hlast])
        · rw [if_neg (fun q => hlast ((nI_eq (by omega) (by omega)).mp q)), cl2_e (fX11_openOf_e ha h' hf hlast (by omega) ho)]
          exact fin _ rfl
      · simp only [if_true, List.append_nil]
        rw [if_neg (show ¬ nI 1 = 0 by decide)]
        unfold fX11_lay_104
        rw [nI_1]
    have goal2 : fX11_lay_6 (n + 1) a (nI side) (nI op) (nI br) (nI l.length) (nI k) (wl m 147 0 l) = fX11_lay_31 (fX11_lay_6 n) a (nI side) (nI op) (nI br) (nI l.length) (nI k) (nI (z_rib r side k)) (wl m 147 0 l) := by
      rw [fX11_lay_6]
      rw [ck_pos (inb_l0 ha), e0, if_neg (nI_ge (by omega) (by omega)), ck_pos (inb_l0 ha)]
      by_cases h0 : side = 0
      · subst h0
        rw [if_pos (show nI 0 = 0 from rfl)]
        simp [z_rib]
      · have h1 : side = 1 := by omega
        subst h1
        rw [if_neg (show ¬ nI 1 = 0 by decide)]
        have e4 : nI (r 0) - 1 = nI (r 0 - 1) := z_sub1 (by omega)
        rw [e4, pk_sub (by omega)]
        simp [z_rib]
    rw [goal2, step, ih (k + 1) n _ m (by omega) ?_ (by omega) h]
    · have e9 : l ++ z_from r side op br (j + 1) k = (l ++ z_seg r side op br k) ++ z_from r side op br j (k + 1) := by rw [List.append_assoc]; rfl
      rw [e9]
    · have := z_seg_len hf (side := side) (br := br) (k := k) ho
      rw [List.length_append]
      omega
theorem fX11_lay_e {m : Me} {a : Nat} {r : Nat → Nat} (ha : a = 141 ∨ a = 142) (h : MR m a r) (hf : z_fan r) {side op br : Nat} (hs : side ≤ 1) (ho : op ≤ z_mo r) (hb : br < 2 ^ 31) : fX11_lay a (nI side) (nI op) (nI br) m = some (nI (z_show r side op br).length, wl m 147 0 (z_show r side op br)) := by
  have := lay6 ha hf hs ho hb (r 0) 0 FU [] m (by omega) (by simp) (FU_pos (by have := hf.2.1; omega)) h
  rw [wl_nil] at this
  exact this
