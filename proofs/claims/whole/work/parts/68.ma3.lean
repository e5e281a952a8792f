/-! mendAll: what a wish costs at least; how the class gathers the wishes of a side -/
def lbt (w : List Nat) : Nat → Nat → Nat → Nat
  | _, 0, a => a
  | k, j + 1, a => lbt w (k + 1) j (a ||| 2 ^ (w.getD k 0))
def lbw (r : Nat → Nat) (i : Nat) : Nat := lbt (z_wish r i) 0 (r (64 + i)) 0
def cup (r s : Nat → Nat) (A i p k : Nat) : Bool := !A.testBit (mlt r i k) && !decide (s (mcl r s i p k) = mlt r i k)
def cuA (r s : Nat → Nat) (A i p : Nat) : Nat := z_ct (cup r s A i p) 0 (r (64 + i))
def luF (r s : Nat → Nat) (A i : Nat) : Nat → Nat → Nat → Nat
  | _, 0, a => a
  | p, j + 1, a => luF r s A i (p + 1) j (if cuA r s A i p < a then cuA r s A i p else a)
def luA (r s : Nat → Nat) (A i : Nat) : Nat := luF r s A i 0 (npl r s i) 8
def rsL (r s : Nat → Nat) : Nat → List Nat → Nat
  | _, [] => 0
  | A, i :: is => rsL r s (A ||| lbw r i) is + luA r s A i
theorem lbt_mono {w : List Nat} {x : Nat} : ∀ j k a, a.testBit x = true → (lbt w k j a).testBit x = true
  | 0, _, a, h => h
  | j + 1, k, a, h => by
    rw [lbt]
    apply lbt_mono j
    rw [Nat.testBit_or, h]
    rfl
theorem lbt_in {w : List Nat} : ∀ j k a q, k ≤ q → q < k + j → (lbt w k j a).testBit (w.getD q 0) = true
  | 0, k, a, q, h1, h2 => by omega
  | j + 1, k, a, q, h1, h2 => by
    rw [lbt]
    by_cases e : q = k
    · subst e
      apply lbt_mono j
      rw [Nat.testBit_or, Nat.testBit_two_pow_self]
      simp
    · exact lbt_in j (k + 1) _ q (by omega) (by omega)
theorem lbt_lt {w : List Nat} (hw : ∀ k, k < w.length → w.getD k 0 ≤ 25) : ∀ j k a, a < 2 ^ 26 → k + j ≤ w.length → lbt w k j a < 2 ^ 26
  | 0, _, a, h, _ => h
  | j + 1, k, a, h, hk => by
    rw [lbt]
    refine lbt_lt hw j (k + 1) _ (Nat.or_lt_two_pow h (Nat.pow_lt_pow_right (by decide) ?_)) (by omega)
    have := hw k (by omega)
    omega
theorem luF_le {r s : Nat → Nat} {A i : Nat} : ∀ j p a, luF r s A i p j a ≤ a ∧ ∀ q, p ≤ q → q < p + j → luF r s A i p j a ≤ cuA r s A i q
  | 0, p, a => ⟨Nat.le_refl _, fun q h1 h2 => by omega⟩
  | j + 1, p, a => by
    rw [luF]
    obtain ⟨h1, h2⟩ := luF_le (r := r) (s := s) (A := A) (i := i) j (p + 1) (if cuA r s A i p < a then cuA r s A i p else a)
    refine ⟨?_, fun q h3 h4 => ?_⟩
    · split at h1 <;> split <;> omega
    · by_cases e : q = p
      · subst e
        split at h1 <;> split <;> omega
      · exact h2 q (by omega) (by omega)
theorem luA_8 {r s : Nat → Nat} {A i : Nat} : luA r s A i ≤ 8 := (luF_le _ _ _).1
theorem rsL_le {r s : Nat → Nat} : ∀ (is : List Nat) A, rsL r s A is ≤ 8 * is.length
  | [], A => by rw [rsL]; omega
  | i :: is, A => by
    have h1 := rsL_le (r := r) (s := s) is (A ||| lbw r i)
    have h2 := luA_8 (r := r) (s := s) (A := A) (i := i)
    rw [rsL, List.length_cons]
    omega
theorem nodup_from {r : Nat → Nat} (hf : z_fan r) {side op br : Nat} (ho : op ≤ z_mo r) : ∀ n k, k + n ≤ r 0 → (z_from r side op br n k).Pairwise (fun a b => a ≠ b)
  | 0, k, _ => List.Pairwise.nil
  | n + 1, k, hk => by
    show (z_seg r side op br k ++ z_from r side op br n (k + 1)).Pairwise _
    have h3 := hf.2.2.2.1
    rw [List.pairwise_append]
    refine ⟨?_, nodup_from hf ho n (k + 1) (by omega), fun a ha b hb => ?_⟩
    · unfold z_seg
      split
      · exact List.Pairwise.nil
      · rw [List.pairwise_map]
        exact List.Pairwise.imp (fun h => by omega) (List.pairwise_lt_range)
    · rw [mem_from] at hb
      obtain ⟨i, i1, i2, hb⟩ := hb
      have q1 := z_op_le hf (k := k) (rib := z_rib r side k) ho
      have q2 := z_op_le hf (k := i) (rib := z_rib r side i) ho
      unfold z_seg at ha hb
      split at ha
      · cases ha
      · split at hb
        · cases hb
        · obtain ⟨c, hc, rfl⟩ := List.mem_map.mp ha
          obtain ⟨d, hd, rfl⟩ := List.mem_map.mp hb
          rw [List.mem_range] at hc hd
          have : z_rib r side k ≠ z_rib r side i := by
            unfold z_rib
            split <;> omega
          omega
theorem nodup_getD {L : List Nat} (h : L.Pairwise (fun a b => a ≠ b)) {a b : Nat} (ha : a < L.length) (hb : b < L.length) (e : L.getD a 0 = L.getD b 0) : a = b := by
  rw [List.getD_eq_getElem?_getD, List.getD_eq_getElem?_getD, List.getElem?_eq_getElem ha, List.getElem?_eq_getElem hb] at e
  have e' : L[a] = L[b] := e
  rw [List.pairwise_iff_getElem] at h
  rcases Nat.lt_trichotomy a b with q | q | q
  · exact absurd e' (h a b ha hb q)
  · exact q
  · exact absurd e'.symm (h b a hb ha q)
theorem omin_or {a b : Option Nat} {x : Nat} (h : omin a b = some x) : a = some x ∨ b = some x := by
  cases a with
  | none => exact Or.inr h
  | some y =>
    cases b with
    | none => exact Or.inl h
    | some z =>
      have := Option.some.inj h
      split at this
      · exact Or.inr (by rw [this])
      · exact Or.inl (by rw [this])
theorem mpl_at {r s : Nat → Nat} {i : Nat} {G : (Nat → Option Nat) → Option Nat} {N : Nat → Option Nat} {x : Nat} : ∀ j p, mpl r s i G p j N = some x → ∃ q N' n' y, p ≤ q ∧ q < p + j ∧ mclm r s i q 0 (r (64 + i)) N 0 = some (N', n') ∧ G N' = some y ∧ x = y + n'
  | 0, p, h => by cases h
  | j + 1, p, h => by
    rw [mpl] at h
    rcases omin_or h with h | h
    · cases hc : mclm r s i p 0 (r (64 + i)) N 0 with
      | none => rw [hc] at h; cases h
      | some z =>
        rw [hc] at h
        have h' : oad z.2 (G z.1) = some x := h
        cases hg : G z.1 with
        | none => rw [hg] at h'; cases h'
        | some y =>
          rw [hg] at h'
          exact ⟨p, z.1, z.2, y, Nat.le_refl _, by omega, hc, hg, (Option.some.inj h').symm⟩
    · obtain ⟨q, N', n', y, a, b, c⟩ := mpl_at j (p + 1) h
      exact ⟨q, N', n', y, by omega, by omega, c⟩
section MA3
variable {m : Me} {H : Bool} {t : Nat} {r s : Nat → Nat} {x1 x2 x3 x4 : Int32}
theorem mcl_inj (hO : KO r s) {i p a b : Nat} (hi : i < r 6) (ha : p + a < (zWs r s i).length) (hb : p + b < (zWs r s i).length) (e : mcl r s i p a = mcl r s i p b) : a = b := by
  have h := nodup_getD (nodup_from hO.1.1 (side := r (100 + i)) (br := s 60) (hO.1.i hi).2.2.2.2.1 (r 0) 0 (by omega)) ha hb (by
    unfold mcl at e
    have : (zWs r s i).getD (p + a) 0 = (zWs r s i).getD (p + b) 0 := by omega
    exact this)
  omega
theorem mclm_lb (hO : KO r s) {i p A : Nat} (hi : i < r 6) (hp : p + r (64 + i) ≤ (zWs r s i).length) : ∀ j k N n N' n', k + j = r (64 + i) → (∀ c l, N c = some l → A.testBit l = true ∨ ∃ q, q < k ∧ c = mcl r s i p q ∧ l = mlt r i q) → mclm r s i p k j N n = some (N', n') → n + z_ct (cup r s A i p) k j ≤ n' ∧ ∀ c l, N' c = some l → A.testBit l = true ∨ ∃ q, q < r (64 + i) ∧ c = mcl r s i p q ∧ l = mlt r i q
  | 0, k, N, n, N', n', hk, h, e => by
    obtain ⟨rfl, rfl⟩ := Prod.mk.inj (Option.some.inj e)
    refine ⟨by rw [z_ct]; omega, fun c l q => ?_⟩
    rcases h c l q with z | ⟨q, z1, z2⟩
    · exact Or.inl z
    · exact Or.inr ⟨q, by omega, z2⟩
  | j + 1, k, N, n, N', n', hk, h, e => by
    rw [mclm] at e
    rw [z_ct]
    cases hN : N (mcl r s i p k) with
    | none =>
      rw [hN] at e
      simp only at e
      obtain ⟨g1, g2⟩ := mclm_lb hO (A := A) hi hp j (k + 1) _ _ N' n' (by omega) (fun c l q => by
        unfold updU at q
        split at q
        · rename_i hc
          exact Or.inr ⟨k, by omega, hc, (Option.some.inj q).symm⟩
        · rcases h c l q with z | ⟨q', z1, z2⟩
          · exact Or.inl z
          · exact Or.inr ⟨q', by omega, z2⟩) e
      refine ⟨?_, g2⟩
      have hc : (if cup r s A i p k = true then 1 else 0) ≤ (if s (mcl r s i p k) = mlt r i k then 0 else 1) := by
        unfold cup
        by_cases hq : s (mcl r s i p k) = mlt r i k
        · rw [if_pos hq, decide_eq_true hq]
          simp
        · rw [if_neg hq]
          split <;> omega
      omega
    | some y =>
      rw [hN] at e
      simp only at e
      by_cases hy : y = mlt r i k
      · rw [if_pos hy] at e
        obtain ⟨g1, g2⟩ := mclm_lb hO (A := A) hi hp j (k + 1) _ _ N' n' (by omega) (fun c l q => by
          rcases h c l q with z | ⟨q', z1, z2⟩
          · exact Or.inl z
          · exact Or.inr ⟨q', by omega, z2⟩) e
        refine ⟨?_, g2⟩
        have hc : cup r s A i p k = false := by
          rcases h _ _ hN with z | ⟨q', z1, z2, -⟩
          · unfold cup
            rw [← hy, z]
            rfl
          · have := mcl_inj hO hi (a := k) (b := q') (by omega) (by omega) z2
            omega
        rw [hc]
        simp only [Bool.false_eq_true, if_false]
        omega
      · rw [if_neg hy] at e
        cases e
theorem wish_le (hO : OKr r) {i : Nat} (hi : i < r 6) : ∀ k, k < (z_wish r i).length → (z_wish r i).getD k 0 ≤ 25 := by
  intro k hk
  rw [z_wish_len] at hk
  have e : (z_wish r i).getD k 0 = r (68 + 8 * i + k) := z_w_at hk
  rw [e]
  exact (hO.i hi).2.2.2.2.2 k hk
theorem lbw_t {i q : Nat} (hq : q < r (64 + i)) : (lbw r i).testBit (mlt r i q) = true := by
  have e : (z_wish r i).getD q 0 = mlt r i q := z_w_at hq
  rw [← e]
  exact lbt_in _ _ _ q (by omega) (by omega)
theorem lbw_lt (hO : OKr r) {i : Nat} (hi : i < r 6) : lbw r i < 2 ^ 26 := lbt_lt (wish_le hO hi) _ _ _ (by decide) (by rw [z_wish_len]; omega)
theorem mbl_lb (hO : KO r s) : ∀ (is : List Nat) A N x, (∀ i ∈ is, i < r 6) → (∀ c l, N c = some l → A.testBit l = true) → mbl r s is N = some x → rsL r s A is ≤ x
  | [], A, N, x, _, _, _ => by rw [rsL]; omega
  | i :: is, A, N, x, hi, hN, h => by
    have h1 := hi i List.mem_cons_self
    rw [mbl] at h
    split at h
    · cases h
    · obtain ⟨q, N', n', y, a, b, c, d, e⟩ := mpl_at _ _ h
      have hp' : q + r (64 + i) ≤ (zWs r s i).length := by unfold npl at b; omega
      obtain ⟨g1, g2⟩ := mclm_lb hO (A := A) h1 hp' (r (64 + i)) 0 N 0 N' n' (by omega) (fun c l z => Or.inl (hN c l z)) c
      have g3 := mbl_lb hO is (A ||| lbw r i) N' y (fun a ha => hi a (List.mem_cons_of_mem _ ha)) (fun c l z => by
        rw [Nat.testBit_or]
        rcases g2 c l z with w | ⟨q', w1, -, w2⟩
        · rw [w]; rfl
        · rw [w2, lbw_t w1]; simp) d
      have g4 := (luF_le (r := r) (s := s) (A := A) (i := i) (npl r s i) 0 8).2 q (by omega) b
      rw [rsL]
      unfold luA
      unfold cuA at g4
      omega
/-! the class -/
def vx (r : Nat → Nat) (x : Nat) : Prop := x / 3 < r 0 ∧ x % 3 < r 1
theorem cc_inj (hf : z_fan r) {x y : Nat} (hx : vx r x) (hy : vx r y) (e : z_cc r x = z_cc r y) : x = y := by
  obtain ⟨-, h0, h1, h2, -⟩ := hf
  unfold z_cc at e
  unfold vx at hx hy
  have : r 1 = 1 ∨ r 1 = 2 ∨ r 1 = 3 := by omega
  rcases this with q | q | q <;> rw [q] at e hx hy <;> omega
theorem cc_lt (hf : z_fan r) {x : Nat} (hx : vx r x) : z_cc r x < 30 := by
  obtain ⟨-, h0, h1, h2, -⟩ := hf
  unfold z_cc
  unfold vx at hx
  have : r 1 = 1 ∨ r 1 = 2 ∨ r 1 = 3 := by omega
  rcases this with q | q | q <;> rw [q] at hx ⊢ <;> omega
theorem zWs_vx (hO : KO r s) {i k : Nat} (hi : i < r 6) (hk : k < (zWs r s i).length) : vx r ((zWs r s i).getD k 0) := by
  obtain ⟨rib, c, h1, h2, h3⟩ := show_cell hO.1.1 (hO.1.i hi).2.2.2.2.1 (getD_mem0 hk)
  have := hO.1.1.2.2.2.1
  have h3' : (zWs r s i).getD k 0 = 3 * rib + c := h3
  unfold vx
  rw [h3']
  omega
def Fc (m m' : Me) : Prop := Ak sC m m' ∧ (∀ b k, b ≠ 99 → b ≠ 100 → ¬ (b = 96 ∧ k = 6) → m'.1 b k = m.1 b k) ∧ m'.2 = m.2
theorem Fc.rf (m : Me) : Fc m m := ⟨Ak.rf m, fun _ _ _ _ _ => rfl, rfl⟩
theorem Fc.tr {m m' m'' : Me} (h : Fc m m') (h' : Fc m' m'') : Fc m m'' := ⟨h.1.tr h'.1, fun b k a c d => (h'.2.1 b k a c d).trans (h.2.1 b k a c d), h'.2.2.trans h.2.2⟩
theorem Fc.s9 {m m' : Me} (h : Fc m m') {j : Nat} (x : Int32) : Fc m (setI m' 99 j x) := ⟨h.1.set x (sC_in (by omega) j), fun b k a c d => (sI_na a).trans (h.2.1 b k a c d), h.2.2⟩
theorem Fc.s0 {m m' : Me} (h : Fc m m') {j : Nat} (x : Int32) : Fc m (setI m' 100 j x) := ⟨h.1.set x (sC_in (by omega) j), fun b k a c d => (sI_na c).trans (h.2.1 b k a c d), h.2.2⟩
theorem Fc.sl {m m' : Me} (h : Fc m m') (x : Int32) : Fc m (setI m' 96 6 x) := ⟨h.1.set x (sC_in (by omega) 6), fun b k a c d => (if_neg d).trans (h.2.1 b k a c d), h.2.2⟩
def GS (m : Me) (t : Nat) (r s : Nat → Nat) (e : Nat) (is : List Nat) : Prop := m.1 96 2 = nI is.length ∧ ∀ d, d < is.length → m.2 98 d = some (t + 19 + 2 * is.getD d 0) ∧ RLt m (102 + 5 * d) (zT r s e (r (104 + is.getD d 0)) (s 60)) ∧ RCl m (102 + 5 * d) ((zWs r s (is.getD d 0)).map (z_cc r))
theorem GS.fc {m' : Me} {e : Nat} {is : List Nat} (h : GS m t r s e is) (hF : Fc m m') : GS m' t r s e is := by
  refine ⟨(hF.2.1 _ _ (by decide) (by decide) (by omega)).trans h.1, fun d hd => ?_⟩
  obtain ⟨g1, ⟨g2, g3⟩, g4, g5⟩ := h.2 d hd
  have a : ∀ c j, 102 ≤ c → m'.1 c j = m.1 c j := fun c j hc => hF.2.1 _ _ (by omega) (by omega) (by omega)
  exact ⟨by rw [hF.2.2]; exact g1, ⟨(a _ _ (by omega)).trans g2, fun k hk => (a _ _ (by omega)).trans (g3 k hk)⟩, (a _ _ (by omega)).trans g4, fun k hk => (a _ _ (by omega)).trans (g5 k hk)⟩
theorem GS.rr {e : Nat} {is : List Nat} (h : GS m t r s e is) {d : Nat} (hd : d < is.length) : rr m 98 d = t + 19 + 2 * is.getD d 0 := by
  unfold Jvm.Pilot.CFanPartsLaw_law_r5629_7fb9d3.rr
  rw [(h.2 d hd).1]
  rfl
theorem ak_98 (k : Nat) (o : Option Nat) : Ak sC m (setR m 98 k o) := ⟨fun _ _ _ => rfl, fun a j h => if_neg (fun e => h e.1)⟩
theorem getD_app {L : List Nat} {x d : Nat} (h : d < L.length) : (L ++ [x]).getD d 0 = L.getD d 0 := getD_l h
theorem getD_snoc (L : List Nat) (x : Nat) : (L ++ [x]).getD L.length 0 = x := by
  rw [List.getD_eq_getElem?_getD, List.getElem?_append_right (Nat.le_refl _), Nat.sub_self]
  rfl
theorem ga8 (hO : KO r s) {e : Nat} (he : e ≤ 1) : ∀ j k n is (m : Me), KC m t r s → GS m t r s e is → is.length ≤ k → k + j = r 6 → j < n → ∃ m', fX3_gather_8 n t 81 (nI e) (nI k) m = fX3_gather_89 FU (nI 0) m' ∧ Ak sC m m' ∧ KC m' t r s ∧ GS m' t r s e (is ++ sdL r e (List.range' k j)) := by
  have h6 := hO.1.2.2.2.2.1
  intro j
  induction j with
  | zero =>
    intro k n is m h hG hl hk hn
    obtain ⟨n, rfl⟩ : ∃ n', n = n' + 1 := ⟨n - 1, by omega⟩
    have e9 := h.2.2.1.2.1.2.2.1
    refine ⟨m, ?_, Ak.rf m, h, ?_⟩
    · rw [fX3_gather_8]
      simp (disch := omega) only [e9, cl2_so, cl1_so, ck_tr, zl_0, zl_1, zl_2, zl_3, zl_4, zl_5, zl_6, zl_7, zl_8, zl_9, zl_10, zl_11, zl_12, zl_15, zl_16, zl_20, zl_24, zl_25, zl_30, zl_31, zl_32, zl_33, zl_44, zl_48, zl_50, zl_57, zl_59, zl_60, zl_61, zl_62, zl_63, zl_64, zl_68, zl_97, zl_99, zl_100, zl_104, zl_108, zl_114, zl_120, zl_122, zl_126, zl_132, zl_180, zl_181, zl_186, zl_255, zl_900, zl_930, zl_1000, zl_1000000, nI_add, pk_mul, zs_sub, zs_lt, zs_le, zs_eq, zs_inb, zs_cl, zm_eq, zm_eq2, zm_lt, zm_le, mz_lt, mz_le, mm_eq, zs_bit, zs_or1, zs_div, zs_rem, ck_pos, if_pos, if_neg, true_or, or_true, true_and, and_true, false_or, or_false, false_and, and_false, not_true, not_false_iff, if_true, if_false, eq_self, Bool.false_eq_true, cl2_id, Bool.not_true, Bool.not_false]
    · show GS m t r s e (is ++ [])
      rw [List.append_nil]
      exact hG
  | succ j ih =>
    intro k n is m h hG hl hk hn
    obtain ⟨n, rfl⟩ : ∃ n', n = n' + 1 := ⟨n - 1, by omega⟩
    have e9 := h.2.2.1.2.1.2.2.1
    have hi : k < r 6 := by omega
    obtain ⟨-, o1, o8, oS, oO, oL⟩ := hO.1.i hi
    obtain ⟨w1, w2, w3⟩ := h.wish hi
    have ht := h.tt
    rw [List.range'_succ]
    rw [fX3_gather_8]
    unfold fX3_gather_80
    by_cases q : r (100 + k) = e
    · have es : sdL r e (k :: List.range' (k + 1) j) = k :: sdL r e (List.range' (k + 1) j) := by unfold sdL; rw [List.filter_cons, decide_eq_true q]; rfl
      rw [es]
      have ea : is ++ k :: sdL r e (List.range' (k + 1) j) = (is ++ [k]) ++ sdL r e (List.range' (k + 1) j) := by simp
      rw [ea]
      have a1 := ak_98 (m := m) is.length (some (t + 19 + 2 * k))
      have h1 := h.ag hO a1.agC
      obtain ⟨m1, f1, f2, f3, f4, f5, f6, f7⟩ := h1.look hO (a := 102 + 5 * is.length) (side := e) (op := r (104 + k)) (br := s 60) ((by decide : ∀ j, j < 4 → kd (102 + 5 * j) = 7) _ (by omega)) he oO hO.s60
      have a2 : Ak sC m1 (setI m1 96 2 (nI (is.length + 1))) := (Ak.rf m1).set _ (sC_in (by omega) 2)
      have h2 := f3.ag hO a2.agC
      obtain ⟨m2, g1, g2, g3, g4⟩ := ih (k + 1) n (is ++ [k]) _ h2 ⟨by rw [sI_eq]; simp, fun d hd => by
        rw [List.length_append, List.length_singleton] at hd
        have hz : ∀ c j, c ≠ 96 → (setI m1 96 2 (nI (is.length + 1))).1 c j = m1.1 c j := fun c j hc => sI_na hc
        by_cases qd : d = is.length
        · subst qd
          rw [getD_snoc]
          refine ⟨?_, ⟨(hz _ _ (by omega)).trans f4.1, fun k hk => (hz _ _ (by omega)).trans (f4.2 k hk)⟩, ?_⟩
          · show m1.2 98 is.length = _
            rw [f7]
            exact if_pos ⟨rfl, rfl⟩
          · have ez : zWs r s k = z_show r e (r (104 + k)) (s 60) := by unfold zWs; rw [q]
            rw [ez]
            exact ⟨(hz _ _ (by omega)).trans f5.1, fun k hk => (hz _ _ (by omega)).trans (f5.2 k hk)⟩
        · have hd' : d < is.length := by omega
          rw [getD_app hd']
          obtain ⟨g1, ⟨g2, g3⟩, g4, g5⟩ := hG.2 d hd'
          have a : ∀ c j, (102 + 5 * d ≤ c ∧ c ≤ 102 + 5 * d + 2) → (setI m1 96 2 (nI (is.length + 1))).1 c j = m.1 c j := fun c j hc => (hz _ _ (by omega)).trans (f6 _ _ (by omega) (by omega) (by omega))
          refine ⟨?_, ⟨(a _ _ (by omega)).trans g2, fun k hk => (a _ _ (by omega)).trans (g3 k hk)⟩, (a _ _ (by omega)).trans g4, fun k hk => (a _ _ (by omega)).trans (g5 k hk)⟩
          show m1.2 98 d = _
          rw [f7]
          show (if 98 = 98 ∧ d = is.length then some (t + 19 + 2 * k) else m.2 98 d) = _
          rw [if_neg (fun z => qd z.2)]
          exact g1⟩ (by simp; omega) (by omega) (by omega)
      refine ⟨m2, ?_, ((a1.tr f2).tr a2).tr g2, g3, g4⟩
      have c2 := hG.1
      have c2' : (setR m 98 is.length (some (t + 19 + 2 * k))).1 96 2 = nI is.length := c2
      have c81 : (setR m 98 is.length (some (t + 19 + 2 * k))).1 81 1 = nI (s 60) := h.2.2.2.1.2.1
      have c3 : (setR m 98 is.length (some (t + 19 + 2 * k))).1 (t + 19 + 2 * k) 3 = nI (r (104 + k)) := w3
      have c4 : m1.1 96 2 = nI is.length := (f6 _ _ (by omega) (by omega) (by omega)).trans c2
      rw [q] at w2
      simp (disch := omega) only [e9, w2, c2, c2', c81, c3, f1, c4, cl2_so, cl1_so, ck_tr, zl_0, zl_1, zl_2, zl_3, zl_4, zl_5, zl_6, zl_7, zl_8, zl_9, zl_10, zl_11, zl_12, zl_15, zl_16, zl_20, zl_24, zl_25, zl_30, zl_31, zl_32, zl_33, zl_44, zl_48, zl_50, zl_57, zl_59, zl_60, zl_61, zl_62, zl_63, zl_64, zl_68, zl_97, zl_99, zl_100, zl_104, zl_108, zl_114, zl_120, zl_122, zl_126, zl_132, zl_180, zl_181, zl_186, zl_255, zl_900, zl_930, zl_1000, zl_1000000, nI_add, pk_mul, zs_sub, zs_lt, zs_le, zs_eq, zs_inb, zs_cl, zm_eq, zm_eq2, zm_lt, zm_le, mz_lt, mz_le, mm_eq, zs_bit, zs_or1, zs_div, zs_rem, ck_pos, if_pos, if_neg, true_or, or_true, true_and, and_true, false_or, or_false, false_and, and_false, not_true, not_false_iff, if_true, if_false, eq_self, Bool.false_eq_true, cl2_id, Bool.not_true, Bool.not_false]
      exact g1
    · have es : sdL r e (k :: List.range' (k + 1) j) = sdL r e (List.range' (k + 1) j) := by unfold sdL; rw [List.filter_cons, decide_eq_false q]; rfl
      rw [es]
      obtain ⟨m2, g1, g2⟩ := ih (k + 1) n is m h hG (by omega) (by omega) (by omega)
      refine ⟨m2, ?_, g2⟩
      simp (disch := omega) only [e9, w2, q, cl2_so, cl1_so, ck_tr, zl_0, zl_1, zl_2, zl_3, zl_4, zl_5, zl_6, zl_7, zl_8, zl_9, zl_10, zl_11, zl_12, zl_15, zl_16, zl_20, zl_24, zl_25, zl_30, zl_31, zl_32, zl_33, zl_44, zl_48, zl_50, zl_57, zl_59, zl_60, zl_61, zl_62, zl_63, zl_64, zl_68, zl_97, zl_99, zl_100, zl_104, zl_108, zl_114, zl_120, zl_122, zl_126, zl_132, zl_180, zl_181, zl_186, zl_255, zl_900, zl_930, zl_1000, zl_1000000, nI_add, pk_mul, zs_sub, zs_lt, zs_le, zs_eq, zs_inb, zs_cl, zm_eq, zm_eq2, zm_lt, zm_le, mz_lt, mz_le, mm_eq, zs_bit, zs_or1, zs_div, zs_rem, ck_pos, if_pos, if_neg, true_or, or_true, true_and, and_true, false_or, or_false, false_and, and_false, not_true, not_false_iff, if_true, if_false, eq_self, Bool.false_eq_true, cl2_id, Bool.not_true, Bool.not_false]
      exact g1
theorem ga89 (hO : KO r s) : ∀ j k n (m : Me), (∀ c, c < k → m.1 99 c = -nI 1 ∧ m.1 100 c = -nI 1) → k + j = 30 → j < n → ∃ m', fX3_gather_89 n (nI k) m = some m' ∧ Fc m m' ∧ (∀ c, c < 30 → m'.1 99 c = -nI 1 ∧ m'.1 100 c = -nI 1) := by
  intro j
  induction j with
  | zero =>
    intro k n m h hk hn
    obtain ⟨n, rfl⟩ : ∃ n', n = n' + 1 := ⟨n - 1, by omega⟩
    refine ⟨m, ?_, Fc.rf m, fun c hc => h c (by omega)⟩
    rw [fX3_gather_89]
    simp (disch := omega) only [cl2_so, cl1_so, ck_tr, zl_0, zl_1, zl_2, zl_3, zl_4, zl_5, zl_6, zl_7, zl_8, zl_9, zl_10, zl_11, zl_12, zl_15, zl_16, zl_20, zl_24, zl_25, zl_30, zl_31, zl_32, zl_33, zl_44, zl_48, zl_50, zl_57, zl_59, zl_60, zl_61, zl_62, zl_63, zl_64, zl_68, zl_97, zl_99, zl_100, zl_104, zl_108, zl_114, zl_120, zl_122, zl_126, zl_132, zl_180, zl_181, zl_186, zl_255, zl_900, zl_930, zl_1000, zl_1000000, nI_add, pk_mul, zs_sub, zs_lt, zs_le, zs_eq, zs_inb, zs_cl, zm_eq, zm_eq2, zm_lt, zm_le, mz_lt, mz_le, mm_eq, zs_bit, zs_or1, zs_div, zs_rem, ck_pos, if_pos, if_neg, true_or, or_true, true_and, and_true, false_or, or_false, false_and, and_false, not_true, not_false_iff, if_true, if_false, eq_self, Bool.false_eq_true, cl2_id, Bool.not_true, Bool.not_false]
  | succ j ih =>
    intro k n m h hk hn
    obtain ⟨n, rfl⟩ : ∃ n', n = n' + 1 := ⟨n - 1, by omega⟩
    obtain ⟨m2, f1, f2, f3⟩ := ih (k + 1) n (setI (setI m 99 k (-nI 1)) 100 k (-nI 1)) (fun c hc => by
      by_cases q : c = k
      · subst q
        exact ⟨(sI_na (by decide)).trans (sI_eq _ _ _ _), sI_eq _ _ _ _⟩
      · exact ⟨((sI_na (by decide)).trans (sI_nj q)).trans (h c (by omega)).1, ((sI_nj q).trans (sI_na (by decide))).trans (h c (by omega)).2⟩) (by omega) (by omega)
    refine ⟨m2, ?_, (((Fc.rf m).s9 _).s0 _).tr f2, f3⟩
    rw [fX3_gather_89]
    simp (disch := omega) only [cl2_so, cl1_so, ck_tr, zl_0, zl_1, zl_2, zl_3, zl_4, zl_5, zl_6, zl_7, zl_8, zl_9, zl_10, zl_11, zl_12, zl_15, zl_16, zl_20, zl_24, zl_25, zl_30, zl_31, zl_32, zl_33, zl_44, zl_48, zl_50, zl_57, zl_59, zl_60, zl_61, zl_62, zl_63, zl_64, zl_68, zl_97, zl_99, zl_100, zl_104, zl_108, zl_114, zl_120, zl_122, zl_126, zl_132, zl_180, zl_181, zl_186, zl_255, zl_900, zl_930, zl_1000, zl_1000000, nI_add, pk_mul, zs_sub, zs_lt, zs_le, zs_eq, zs_inb, zs_cl, zm_eq, zm_eq2, zm_lt, zm_le, mz_lt, mz_le, mm_eq, zs_bit, zs_or1, zs_div, zs_rem, ck_pos, if_pos, if_neg, true_or, or_true, true_and, and_true, false_or, or_false, false_and, and_false, not_true, not_false_iff, if_true, if_false, eq_self, Bool.false_eq_true, cl2_id, Bool.not_true, Bool.not_false]
    exact f1
def sdR (r : Nat → Nat) (e : Nat) : List Nat := sdL r e (List.range' 0 (r 6))
theorem sdR_ok (hO : OKr r) {e : Nat} : (sdR r e).length ≤ 4 ∧ (∀ i ∈ sdR r e, i < r 6 ∧ r (100 + i) = e) ∧ ∀ d, d < (sdR r e).length → (sdR r e).getD d 0 < r 6 ∧ r (100 + (sdR r e).getD d 0) = e := by
  have h6 := hO.2.2.2.2.1
  have h1 : ∀ i ∈ sdR r e, i < r 6 ∧ r (100 + i) = e := sdL_in (fun i hi => by have := List.mem_range'_1.mp hi; omega)
  refine ⟨?_, h1, fun d hd => h1 _ (getD_mem0 hd)⟩
  have := List.length_filter_le (fun i => decide (r (100 + i) = e)) (List.range' 0 (r 6))
  rw [List.length_range'] at this
  unfold sdR sdL
  omega
theorem KC.gather (h : KC m t r s) (hO : KO r s) {e : Nat} (he : e ≤ 1) : ∃ m', fX3_gather t 81 (nI e) m = some m' ∧ Ak sC m m' ∧ KC m' t r s ∧ GS m' t r s e (sdR r e) ∧ (∀ c, c < 30 → m'.1 99 c = -nI 1 ∧ m'.1 100 c = -nI 1) := by
  have h6 := hO.1.2.2.2.2.1
  have a1 : Ak sC m (setI m 96 2 (nI 0)) := (Ak.rf m).set _ (sC_in (by omega) 2)
  obtain ⟨m1, f1, f2, f3, f4⟩ := ga8 (t := t) hO he (r 6) 0 FU [] _ (h.ag hO a1.agC) ⟨sI_eq _ _ _ _, fun d hd => by simp at hd⟩ (by simp) (by omega) (FU_pos (by omega))
  obtain ⟨m2, g1, g2, g3⟩ := ga89 hO 30 0 FU m1 (fun c hc => by omega) (by omega) (FU_pos (by omega))
  rw [List.nil_append] at f4
  refine ⟨m2, ?_, (a1.tr f2).tr g2.1, f3.ag hO g2.1.agC, f4.fc g2, g3⟩
  unfold fX3_gather
  exact f1.trans g1
end MA3
