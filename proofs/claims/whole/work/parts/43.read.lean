/-! Words READ: both programs' ways of asking. -/
def z_al (g : Nat → Bool) : Nat → Nat → Bool
  | _, 0 => true
  | k, j + 1 => g k && z_al g (k + 1) j
def z_ct (g : Nat → Bool) : Nat → Nat → Nat
  | _, 0 => 0
  | k, j + 1 => (if g k then 1 else 0) + z_ct g (k + 1) j
def z_ff (g : Nat → Bool) : Nat → Nat → Option Nat
  | _, 0 => none
  | k, j + 1 => if g k then some k else z_ff g (k + 1) j
theorem z_al_congr {g h : Nat → Bool} : ∀ j k, (∀ i, k ≤ i → i < k + j → g i = h i) → z_al g k j = z_al h k j
  | 0, _, _ => rfl
  | j + 1, k, e => by
    show (g k && z_al g (k + 1) j) = (h k && z_al h (k + 1) j)
    rw [e k (Nat.le_refl _) (by omega), z_al_congr j (k + 1) (fun i h1 h2 => e i (by omega) (by omega))]
theorem z_ct_congr {g h : Nat → Bool} : ∀ j k, (∀ i, k ≤ i → i < k + j → g i = h i) → z_ct g k j = z_ct h k j
  | 0, _, _ => rfl
  | j + 1, k, e => by
    show (if g k then 1 else 0) + z_ct g (k + 1) j = (if h k then 1 else 0) + z_ct h (k + 1) j
    rw [e k (Nat.le_refl _) (by omega), z_ct_congr j (k + 1) (fun i h1 h2 => e i (by omega) (by omega))]
theorem z_ff_congr {g h : Nat → Bool} : ∀ j k, (∀ i, k ≤ i → i < k + j → g i = h i) → z_ff g k j = z_ff h k j
  | 0, _, _ => rfl
  | j + 1, k, e => by
    show (if g k then some k else z_ff g (k + 1) j) = (if h k then some k else z_ff h (k + 1) j)
    rw [e k (Nat.le_refl _) (by omega), z_ff_congr j (k + 1) (fun i h1 h2 => e i (by omega) (by omega))]
theorem z_ct_le (g : Nat → Bool) : ∀ j k, z_ct g k j ≤ j
  | 0, _ => Nat.le_refl _
  | j + 1, k => by
    have := z_ct_le g j (k + 1)
    show (if g k then 1 else 0) + z_ct g (k + 1) j ≤ j + 1
    split <;> omega
theorem z_ct_al (g : Nat → Bool) : ∀ j k, (z_ct (fun i => !g i) k j = 0) ↔ z_al g k j = true
  | 0, _ => by simp [z_ct, z_al]
  | j + 1, k => by
    have := z_ct_al g j (k + 1)
    show (if (!g k) = true then 1 else 0) + z_ct (fun i => !g i) (k + 1) j = 0 ↔ (g k && z_al g (k + 1) j) = true
    cases h : g k
    · simp
    · simp only [Bool.not_true, Bool.false_eq_true, if_false, Nat.zero_add, Bool.true_and]
      exact this
theorem z_ct_app (g : Nat → Bool) : ∀ i k j, z_ct g k (i + j) = z_ct g k i + z_ct g (k + i) j
  | 0, k, j => by simp [z_ct]
  | i + 1, k, j => by
    have := z_ct_app g i (k + 1) j
    rw [show i + 1 + j = (i + j) + 1 by omega]
    show (if g k then 1 else 0) + z_ct g (k + 1) (i + j) = (if g k then 1 else 0) + z_ct g (k + 1) i + z_ct g (k + (i + 1)) j
    rw [this, show k + 1 + i = k + (i + 1) by omega]
    omega
theorem z_ct_0 {g : Nat → Bool} : ∀ j k, (∀ i, k ≤ i → i < k + j → g i = false) → z_ct g k j = 0
  | 0, _, _ => rfl
  | j + 1, k, e => by
    show (if g k then 1 else 0) + z_ct g (k + 1) j = 0
    rw [e k (Nat.le_refl _) (by omega), z_ct_0 j (k + 1) (fun i h1 h2 => e i (by omega) (by omega))]
    rfl
theorem z_ff_app (g : Nat → Bool) : ∀ i k j, z_ff g k (i + j) = (z_ff g k i).or (z_ff g (k + i) j)
  | 0, k, j => by simp [z_ff]
  | i + 1, k, j => by
    have := z_ff_app g i (k + 1) j
    rw [show i + 1 + j = (i + j) + 1 by omega]
    show (if g k then some k else z_ff g (k + 1) (i + j)) = (if g k then some k else z_ff g (k + 1) i).or _
    cases h : g k
    · simp only [Bool.false_eq_true, if_false]
      rw [this, show k + 1 + i = k + (i + 1) by omega]
    · simp
theorem z_ff_0 {g : Nat → Bool} : ∀ j k, (∀ i, k ≤ i → i < k + j → g i = false) → z_ff g k j = none
  | 0, _, _ => rfl
  | j + 1, k, e => by
    show (if g k then some k else z_ff g (k + 1) j) = none
    rw [e k (Nat.le_refl _) (by omega), z_ff_0 j (k + 1) (fun i h1 h2 => e i (by omega) (by omega))]
    rfl
theorem z_ff_ct (g : Nat → Bool) : ∀ j k, z_ff g k j = none ↔ z_ct g k j = 0
  | 0, _ => by simp [z_ff, z_ct]
  | j + 1, k => by
    have := z_ff_ct g j (k + 1)
    show (if g k then some k else z_ff g (k + 1) j) = none ↔ (if g k then 1 else 0) + z_ct g (k + 1) j = 0
    cases g k
    · simpa using this
    · simp
theorem z_ff_lt {g : Nat → Bool} : ∀ j k p, z_ff g k j = some p → k ≤ p ∧ p < k + j ∧ g p = true
  | 0, _, _, h => by simp [z_ff] at h
  | j + 1, k, p, h => by
    have h' : (if g k then some k else z_ff g (k + 1) j) = some p := h
    cases hk : g k
    · rw [hk] at h'
      simp only [Bool.false_eq_true, if_false] at h'
      have := z_ff_lt j (k + 1) p h'
      exact ⟨by omega, by omega, this.2.2⟩
    · rw [hk] at h'
      simp only [if_true, Option.some.injEq] at h'
      subst h'
      exact ⟨Nat.le_refl _, by omega, hk⟩
/-- a word stands at a place -/
def z_g (w LT : List Nat) (p k : Nat) : Bool := decide (LT.getD (p + k) 0 = w.getD k 0)
def z_bare (w : List Nat) : Bool := !z_al (fun k => decide (w.getD k 0 ≠ 25)) 0 w.length
def z_std (w LT : List Nat) (p : Nat) : Bool := decide (p + w.length ≤ LT.length) && (!z_bare w && z_al (z_g w LT p) 0 w.length)
/-- how many places, the first -/
def z_rdN (w LT : List Nat) : Nat := z_ct (z_std w LT) 0 LT.length
def z_rdF (w LT : List Nat) : Option Nat := z_ff (z_std w LT) 0 LT.length
def z_oi (o : Option Nat) : Int32 := match o with
  | some p => nI p
  | none => -2
/-- a word in the class: a saying -/
def SY (m : Me) (a : Nat) (w : List Nat) : Prop := m.1 a 1 = nI w.length ∧ ∀ k, k < w.length → m.1 (a + 1) k = nI (w.getD k 0)
/-- a word in the reference: a stretch of its table -/
def z_w (r : Nat → Nat) (fr many : Nat) : List Nat := (List.range many).map (fun k => r (fr + k))
theorem z_w_len (r : Nat → Nat) (fr many : Nat) : (z_w r fr many).length = many := by simp [z_w]
theorem z_w_at {r : Nat → Nat} {fr many k : Nat} (h : k < many) : (z_w r fr many).getD k 0 = r (fr + k) := by
  unfold z_w
  rw [List.getD_eq_getElem?_getD, List.getElem?_map, List.getElem?_range h]
  rfl
theorem getD_map0 {f : Nat → Nat} {l : List Nat} {k : Nat} (h : k < l.length) : (l.map f).getD k 0 = f (l.getD k 0) := by
  rw [List.getD_eq_getElem?_getD, List.getD_eq_getElem?_getD, List.getElem?_map, List.getElem?_eq_getElem h]
  rfl
theorem getD_mem0 {l : List Nat} {k : Nat} (h : k < l.length) : l.getD k 0 ∈ l := by
  rw [List.getD_eq_getElem?_getD, List.getElem?_eq_getElem h]
  exact List.getElem_mem h
theorem al_and (g h : Nat → Bool) : ∀ j k, z_al (fun i => g i && h i) k j = (z_al g k j && z_al h k j)
  | 0, _ => rfl
  | j + 1, k => by
    have := al_and g h j (k + 1)
    show ((g k && h k) && z_al _ (k + 1) j) = ((g k && z_al g (k + 1) j) && (h k && z_al h (k + 1) j))
    rw [this]
    cases g k <;> cases h k <;> simp
/-- the reference's painting -/
def MS (m : Me) (s : Nat → Nat) : Prop := ∀ k, k < 62 → m.1 143 k = nI (s k)
def ML146 (m : Me) (l : List Nat) : Prop := ∀ k, k < l.length → m.1 147 k = nI (l.getD k 0)
theorem fX11_letterAt_e {m : Me} {s : Nat → Nat} {l : List Nat} (hs : MS m s) (hl : ML146 m l) (hl30 : l.length ≤ 30) (hc : ∀ c ∈ l, c < 30) {side k : Nat} (hside : side ≤ 1) (hk : k < l.length) : fX11_letterAt (nI side) (nI k) m = some (nI ((l.map (fun c => s (30 * side + c))).getD k 0), m) := by
  unfold fX11_letterAt
  have h30 : (30 : Int32) = nI 30 := rfl
  have h1 := hc _ (getD_mem0 hk)
  rw [ck_pos ((z_inb (by omega)).mpr (by omega)), nI_clamp (by omega), hl k hk, h30, pk_mul, nI_add, ck_pos ((z_inb (by omega)).mpr (by omega)), nI_clamp (by omega), hs _ (by omega), getD_map0 hk]
theorem st19 {m : Me} {r s : Nat → Nat} {l : List Nat} (hr : MR m 141 r) (hs : MS m s) (hl : ML146 m l) (hl30 : l.length ≤ 30) (hc : ∀ c ∈ l, c < 30) {side fr many p : Nat} (hside : side ≤ 1) (hfr : fr + many ≤ 186) (hpm : p + many ≤ l.length) (hrb : ∀ k, k < many → r (fr + k) < 1000) (hsb : ∀ k, k < 60 → s k < 1000) : ∀ j k n, k + j = many → j < n → fX11_stands_19 n (nI fr) (nI many) (nI side) (nI p) (nI 1) (nI k) m = some (nI (if z_al (fun k => decide ((z_w r fr many).getD k 0 ≠ 25) && z_g (z_w r fr many) (l.map (fun c => s (30 * side + c))) p k) k j then 1 else 0), m) := by
  intro j
  induction j with
  | zero =>
    intro k n hk hn
    obtain ⟨n, rfl⟩ : ∃ q, n = q + 1 := ⟨n - 1, by omega⟩
    unfold fX11_stands_19 fX11_stands_79
    rw [if_pos (nI_le (by omega) (by omega)), ck_pos (show nI 1 = 0 ∨ nI 1 = 1 from Or.inr rfl)]
    rfl
  | succ j ih =>
    intro k n hk hn
    obtain ⟨n, rfl⟩ : ∃ q, n = q + 1 := ⟨n - 1, by omega⟩
    have hkm : k < many := by omega
    have hz : ∀ q, fX11_stands_70 (fX11_stands_19 (q + 1)) (nI fr) (nI many) (nI side) (nI p) (nI k) m = some (nI 0, m) := by
      intro q
      unfold fX11_stands_70 fX11_stands_71 fX11_stands_19 fX11_stands_79
      by_cases h : nI many ≤ nI k + 1
      · rw [if_pos h, ck_pos (Or.inl rfl)]; rfl
      · rw [if_neg h, if_pos rfl, ck_pos (Or.inl rfl)]; rfl
    obtain ⟨n, rfl⟩ : ∃ q, n = q + 1 := ⟨n - 1, by omega⟩
    rw [fX11_stands_19]
    have e1 : nI fr + nI k = nI (fr + k) := nI_add fr k
    have e2 : nI p + nI k = nI (p + k) := nI_add p k
    have hw := z_w_at (r := r) (fr := fr) hkm
    have hin : inb (nI (fr + k)) 186 := (z_inb (by omega)).mpr (by omega)
    rw [if_neg (nI_ge (by omega) (by omega)), if_neg (show ¬ nI 1 = 0 by decide), e1]
    simp only [ck_pos hin]
    rw [nI_clamp (by omega), hr _ (by omega), e2]
    show _ = some (nI (if ((decide ((z_w r fr many).getD k 0 ≠ 25) && z_g (z_w r fr many) (l.map (fun c => s (30 * side + c))) p k) && z_al _ (k + 1) j) then 1 else 0), m)
    rw [hw]
    have hb := hrb k hkm
    by_cases h25 : r (fr + k) = 25
    · rw [if_pos (by rw [h25]; rfl), hz]
      simp [h25]
    · rw [if_neg (show ¬ nI (r (fr + k)) = 25 from fun q => h25 ((nI_eq (b := 25) (by omega) (by decide)).mp q)), cl2_e (fX11_letterAt_e hs hl hl30 hc hside (by omega)), hr _ (by omega)]
      have hlt : (l.map (fun c => s (30 * side + c))).getD (p + k) 0 < 1000 := by
        rw [getD_map0 (by omega)]
        have := hc _ (getD_mem0 (l := l) (k := p + k) (by omega))
        exact hsb _ (by omega)
      unfold z_g
      rw [hw]
      by_cases heq : (l.map (fun c => s (30 * side + c))).getD (p + k) 0 = r (fr + k)
      · rw [if_pos (by rw [heq])]
        unfold fX11_stands_71
        rw [nI_1, show ((1 : Int32)) = nI 1 from rfl, ih (k + 1) (n + 1) (by omega) (by omega)]
        simp only [h25, heq, ne_eq, not_false_eq_true, decide_true, Bool.true_and]
        rfl
      · rw [if_neg (fun q => heq ((nI_eq (by omega) (by omega)).mp q)), hz, decide_eq_false heq, Bool.and_false, Bool.false_and]
        rfl
theorem fX11_stands_e {m : Me} {r s : Nat → Nat} {l : List Nat} (hr : MR m 141 r) (hs : MS m s) (hl : ML146 m l) (hl30 : l.length ≤ 30) (hc : ∀ c ∈ l, c < 30) {side fr many p : Nat} (hside : side ≤ 1) (hfr : fr + many ≤ 186) (hp : p < 1000) (hrb : ∀ k, k < many → r (fr + k) < 1000) (hsb : ∀ k, k < 60 → s k < 1000) : fX11_stands (nI fr) (nI many) (nI side) (nI p) (nI l.length) m = some (nI (if z_std (z_w r fr many) (l.map (fun c => s (30 * side + c))) p then 1 else 0), m) := by
  unfold fX11_stands fX11_stands_14
  rw [nI_add]
  unfold z_std z_bare
  rw [z_w_len, List.length_map, Bool.not_not, ← al_and]
  by_cases h : p + many ≤ l.length
  · rw [if_neg (nI_nlt h (by omega)), show ((1 : Int32)) = nI 1 from rfl, show ((0 : Int32)) = nI 0 from rfl, st19 hr hs hl hl30 hc hside hfr h hrb hsb many 0 FU (by omega) (FU_pos (by omega))]
    simp only [h, decide_true, Bool.true_and]
  · rw [if_pos (nI_lt (by omega) (by omega))]
    have hF : FU = 1999 + 1 := rfl
    rw [hF]
    unfold fX11_stands_19 fX11_stands_79
    have hr0 : ∀ q : Bool, (if (decide (p + many ≤ l.length) && q) = true then (1 : Nat) else 0) = 0 := by
      intro q
      rw [decide_eq_false h]
      rfl
    rw [hr0]
    by_cases h2 : nI many ≤ 0
    · rw [if_pos h2, ck_pos (Or.inl rfl)]; rfl
    · rw [if_neg h2, if_pos rfl, ck_pos (Or.inl rfl)]; rfl
/-- the reference's count, with the first place beside it (138 25) -/
theorem ro27 {m : Me} {r s : Nat → Nat} {l : List Nat} (hr : MR m 141 r) (hs : MS m s) (hl : ML146 m l) (hl30 : l.length ≤ 30) (hc : ∀ c ∈ l, c < 30) {side fr many : Nat} (hside : side ≤ 1) (hfr : fr + many ≤ 186) (hrb : ∀ k, k < many → r (fr + k) < 1000) (hsb : ∀ k, k < 60 → s k < 1000) : ∀ j p q (f : Option Nat) n, p + j = l.length → j < n → q ≤ p → (q = 0 ↔ f = none) → fX11_readsOf_27 n (nI fr) (nI many) (nI side) (nI l.length) (nI q) (nI p) (setI m 138 25 (z_oi f)) = some (nI (q + z_ct (z_std (z_w r fr many) (l.map (fun c => s (30 * side + c)))) p j), setI m 138 25 (z_oi (f.or (z_ff (z_std (z_w r fr many) (l.map (fun c => s (30 * side + c)))) p j)))) := by
  intro j
  induction j with
  | zero =>
    intro p q f n hp hn hq hqf
    obtain ⟨n, rfl⟩ : ∃ z, n = z + 1 := ⟨n - 1, by omega⟩
    unfold fX11_readsOf_27
    rw [if_pos (nI_le (by omega) (by omega))]
    simp [z_ct, z_ff]
  | succ j ih =>
    intro p q f n hp hn hq hqf
    obtain ⟨n, rfl⟩ : ∃ z, n = z + 1 := ⟨n - 1, by omega⟩
    rw [fX11_readsOf_27]
    have hr' : MR (setI m 138 25 (z_oi f)) 141 r := fun k hk => (sI_na (by decide)).trans (hr k hk)
    have hs' : MS (setI m 138 25 (z_oi f)) s := fun k hk => (sI_na (by decide)).trans (hs k hk)
    have hl' : ML146 (setI m 138 25 (z_oi f)) l := fun k hk => (sI_na (by decide)).trans (hl k hk)
    rw [if_neg (nI_ge (by omega) (by omega)), cl2_e (fX11_stands_e hr' hs' hl' hl30 hc hside hfr (by omega) hrb hsb)]
    show _ = some (nI (q + ((if z_std _ _ p then 1 else 0) + z_ct _ (p + 1) j)), setI m 138 25 (z_oi (f.or (if z_std _ _ p then some p else z_ff _ (p + 1) j))))
    cases hst : z_std (z_w r fr many) (l.map (fun c => s (30 * side + c))) p
    · simp only [Bool.false_eq_true, if_false]
      rw [if_pos (show nI 0 = 0 from rfl)]
      unfold fX11_readsOf_72
      rw [nI_1, ih (p + 1) q f n (by omega) (by omega) (by omega) hqf, Nat.zero_add]
    · simp only [if_true]
      rw [if_neg (show ¬ nI 1 = 0 by decide)]
      have tail : ∀ f' : Option Nat, f' = f.or (some p) → fX11_readsOf_66 (fX11_readsOf_27 n) (nI fr) (nI many) (nI side) (nI l.length) (nI q) (nI p) (z_oi f') (setI m 138 25 (z_oi f)) = some (nI (q + (1 + z_ct (z_std (z_w r fr many) (l.map (fun c => s (30 * side + c)))) (p + 1) j)), setI m 138 25 (z_oi (f.or (some p)))) := by
        intro f' hf'
        unfold fX11_readsOf_66 fX11_readsOf_72
        have hn0 : f' ≠ none := by rw [hf']; cases f <;> simp
        rw [setI_setI, nI_1, nI_1, ih (p + 1) (q + 1) f' n (by omega) (by omega) (by omega) (by simp [hn0])]
        have e : f'.or (z_ff (z_std (z_w r fr many) (l.map (fun c => s (30 * side + c)))) (p + 1) j) = f.or (some p) := by
          rw [hf']; cases f <;> simp
        rw [e]
        congr 3
        omega
      by_cases hq0 : q = 0
      · rw [if_pos (by rw [hq0]; rfl)]
        have hfn := hqf.mp hq0
        exact tail (some p) (by rw [hfn]; rfl)
      · rw [if_neg (show ¬ nI q = 0 from fun z => hq0 ((nI_eq (b := 0) (by omega) (by decide)).mp z)), sI_eq]
        have : ∃ v, f = some v := by
          cases f with
          | none => exact absurd (hqf.mpr rfl) hq0
          | some v => exact ⟨v, rfl⟩
        obtain ⟨v, rfl⟩ := this
        exact tail (some v) (by simp)
theorem fX11_readsOf_e {m : Me} {r s : Nat → Nat} (hr : MR m 141 r) (hs : MS m s) (hf : z_fan r) {side op br fr many : Nat} (hside : side ≤ 1) (ho : op ≤ z_mo r) (hb : br < 2 ^ 31) (hfr : fr + many ≤ 186) (hrb : ∀ k, k < many → r (fr + k) < 1000) (hsb : ∀ k, k < 60 → s k < 1000) : fX11_readsOf (nI fr) (nI many) (nI side) (nI op) (nI br) m = some (nI (z_rdN (z_w r fr many) ((z_show r side op br).map (fun c => s (30 * side + c)))), setI (wl m 147 0 (z_show r side op br)) 138 25 (z_oi (z_rdF (z_w r fr many) ((z_show r side op br).map (fun c => s (30 * side + c)))))) := by
  unfold fX11_readsOf
  rw [cl2_e (fX11_lay_e (Or.inl rfl) hr hf hside ho hb)]
  have h30 := z_show_len hf (side := side) (br := br) ho
  have := ro27 (m := wl m 147 0 (z_show r side op br)) (r := r) (s := s) (l := z_show r side op br) (fun k hk => (wl_na (by decide)).trans (hr k hk)) (fun k hk => (wl_na (by decide)).trans (hs k hk)) (fun k hk => wl_at hk) h30 (z_show_lt hf ho) hside hfr hrb hsb (z_show r side op br).length 0 0 none FU (by omega) (FU_pos (by omega)) (Nat.le_refl _) (by simp)
  unfold z_rdN z_rdF
  rw [List.length_map]
  rw [Nat.zero_add, Option.none_or] at this
  exact this
