/-! the shortest row of a set of words with a given last one; the class's table -/
def mnS (x : Nat) : Option Nat → Option Nat
  | none => some x
  | some y => if x < y then some x else some y
def mno (g : Nat → Bool) (f : Nat → Nat) : Nat → Nat → Option Nat → Option Nat
  | _, 0, o => o
  | k, j + 1, o => mno g f (k + 1) j (if g k then mnS (f k) o else o)
def clr (S w : Nat) : Nat := if S.testBit w then S - 2 ^ w else S
theorem clr_I : ∀ S, S < 64 → ∀ w, w < 6 → nI S &&& ((nI 1 <<< (nI w &&& nI 31)) ^^^ -nI 1) = nI (clr S w) := by decide +kernel
theorem clr_t : ∀ S, S < 64 → ∀ w, w < 6 → ∀ v, v < 6 → (clr S w).testBit v = (S.testBit v && decide (v ≠ w)) := by decide +kernel
theorem clr_lt : ∀ S, S < 64 → ∀ w, w < 6 → S.testBit w = true → clr S w < S ∧ (clr S w = 0 ↔ S = 2 ^ w) ∧ ¬ clr S w = S := by decide +kernel
theorem clr_n {S w : Nat} (h : S.testBit w = false) : clr S w = S := by
  unfold clr
  rw [h]
  rfl
theorem clr_le (S w : Nat) : clr S w ≤ S := by
  unfold clr
  split
  · exact Nat.sub_le _ _
  · exact Nat.le_refl _
def sub6 (a b : Nat) : Bool := decide (a &&& (63 ^^^ b) = 0)
theorem andn_I : ∀ a, a < 64 → ∀ b, b < 64 → nI a &&& (nI b ^^^ -nI 1) = nI (a &&& (63 ^^^ b)) := by decide +kernel
theorem sub6_iff : ∀ a, a < 64 → ∀ b, b < 64 → (sub6 a b = true ↔ ∀ v, v < 6 → a.testBit v = true → b.testBit v = true) := by decide +kernel
theorem ext6 : ∀ a, a < 64 → ∀ b, b < 64 → (∀ v, v < 6 → a.testBit v = b.testBit v) → a = b := by decide +kernel
theorem and6 : ∀ a, a < 64 → ∀ b, b < 64 → (a &&& b = 0 ↔ ∀ v, v < 6 → ¬ (a.testBit v = true ∧ b.testBit v = true)) := by decide +kernel
theorem t_hi {S N v : Nat} (h : S < 2 ^ N) (hv : N ≤ v) : S.testBit v = false := Nat.testBit_lt_two_pow (Nat.lt_of_lt_of_le h (Nat.pow_le_pow_right (by decide) hv))
theorem nz6 : ∀ a, a < 64 → 1 ≤ a → ∃ v, v < 6 ∧ a.testBit v = true := by decide +kernel
theorem pw6 {N : Nat} (h : N ≤ 6) : 2 ^ N ≤ 64 := Nat.le_trans (Nat.pow_le_pow_right (by decide) h) (by decide)
theorem mno_congr {g g' : Nat → Bool} {f f' : Nat → Nat} : ∀ j k o, (∀ i, k ≤ i → i < k + j → g i = g' i) → (∀ i, k ≤ i → i < k + j → g i = true → f i = f' i) → mno g f k j o = mno g' f' k j o
  | 0, k, o, _, _ => rfl
  | j + 1, k, o, h1, h2 => by
    rw [mno, mno, ← h1 k (by omega) (by omega)]
    cases hg : g k
    · exact mno_congr j (k + 1) _ (fun i a b => h1 i (by omega) (by omega)) (fun i a b => h2 i (by omega) (by omega))
    · rw [h2 k (by omega) (by omega) hg]
      exact mno_congr j (k + 1) _ (fun i a b => h1 i (by omega) (by omega)) (fun i a b => h2 i (by omega) (by omega))
theorem mno_le {g : Nat → Bool} {f : Nat → Nat} {B : Nat} : ∀ j k o, (∀ x, o = some x → x ≤ B) → (∀ i, k ≤ i → i < k + j → g i = true → f i ≤ B) → ∀ x, mno g f k j o = some x → x ≤ B
  | 0, k, o, h, _, x, e => h x e
  | j + 1, k, o, h, h2, x, e => by
    rw [mno] at e
    refine mno_le j (k + 1) _ ?_ (fun i a b => h2 i (by omega) (by omega)) x e
    intro y hy
    split at hy
    · rename_i hg
      have hk := h2 k (by omega) (by omega) hg
      cases o with
      | none => have := Option.some.inj hy; omega
      | some z =>
        rw [mnS] at hy
        split at hy
        · have := Option.some.inj hy; omega
        · exact h y hy
    · exact h y hy
theorem mno_some {g : Nat → Bool} {f : Nat → Nat} : ∀ j k o, (o ≠ none ∨ ∃ i, k ≤ i ∧ i < k + j ∧ g i = true) → mno g f k j o ≠ none
  | 0, k, o, h => by
    rw [mno]
    rcases h with h | ⟨i, h1, h2, -⟩
    · exact h
    · omega
  | j + 1, k, o, h => by
    rw [mno]
    apply mno_some j (k + 1)
    by_cases hg : g k = true
    · left
      rw [if_pos hg]
      cases o with
      | none => intro q; cases q
      | some z =>
        rw [mnS]
        split <;> (intro q; cases q)
    · rw [if_neg hg]
      rcases h with h | ⟨i, h1, h2, h3⟩
      · exact Or.inl h
      · right
        refine ⟨i, ?_, by omega, h3⟩
        rcases Nat.eq_or_lt_of_le h1 with e | e
        · subst e; exact absurd h3 hg
        · omega
def dp (N : Nat) (len : Nat → Nat) (ov : Nat → Nat → Nat) : Nat → Nat → Nat → Nat
  | 0, _, _ => 0
  | n + 1, S, w => if S.testBit w = true ∧ S ≠ 2 ^ w then len w + (mno (fun v => (clr S w).testBit v) (fun v => dp N len ov n (clr S w) v - ov v w) 0 N none).getD 0 else len w
theorem dp_fuel {N : Nat} (hN : N ≤ 6) {len : Nat → Nat} {ov : Nat → Nat → Nat} : ∀ n n' S w, S < 64 → w < N → S < n → S < n' → dp N len ov n S w = dp N len ov n' S w
  | 0, n', S, w, _, _, h, _ => by omega
  | n + 1, 0, S, w, _, _, _, h => by omega
  | n + 1, n' + 1, S, w, hS, hw, h1, h2 => by
    rw [dp, dp]
    split
    · rename_i hc
      have hl := (clr_lt S hS w (by omega) hc.1).1
      congr 2
      apply mno_congr
      · intro i _ _; rfl
      · intro i _ hi _
        rw [dp_fuel hN n n' (clr S w) i (by omega) (by omega) (by omega) (by omega)]
    · rfl
def D6 (N : Nat) (len : Nat → Nat) (ov : Nat → Nat → Nat) (S w : Nat) : Nat := dp N len ov 64 S w
theorem D6_1 {N : Nat} {len : Nat → Nat} {ov : Nat → Nat → Nat} {w : Nat} : D6 N len ov (2 ^ w) w = len w := by
  unfold D6
  rw [show (64 : Nat) = 63 + 1 from rfl, dp, if_neg (fun q => q.2 rfl)]
theorem D6_2 {N : Nat} (hN : N ≤ 6) {len : Nat → Nat} {ov : Nat → Nat → Nat} {S w : Nat} (hS : S < 64) (hw : w < N) (h1 : S.testBit w = true) (h2 : S ≠ 2 ^ w) : D6 N len ov S w = len w + (mno (fun v => (clr S w).testBit v) (fun v => D6 N len ov (clr S w) v - ov v w) 0 N none).getD 0 := by
  have hl := (clr_lt S hS w (by omega) h1).1
  have e : mno (fun v => (clr S w).testBit v) (fun v => dp N len ov 63 (clr S w) v - ov v w) 0 N none = mno (fun v => (clr S w).testBit v) (fun v => dp N len ov 64 (clr S w) v - ov v w) 0 N none := mno_congr _ _ _ (fun _ _ _ => rfl) (fun i _ hi _ => by
    show dp N len ov 63 (clr S w) i - ov i w = dp N len ov 64 (clr S w) i - ov i w
    rw [dp_fuel hN 63 64 (clr S w) i (by omega) (by omega) (by omega) (by omega)])
  unfold D6
  rw [show dp N len ov 64 S w = dp N len ov (63 + 1) S w from rfl, dp, if_pos ⟨h1, h2⟩, e]
theorem dp_ge {N : Nat} {len : Nat → Nat} {ov : Nat → Nat → Nat} (n S w : Nat) : len w ≤ dp N len ov (n + 1) S w := by
  rw [dp]
  split <;> omega
theorem D6_ge {N : Nat} {len : Nat → Nat} {ov : Nat → Nat → Nat} (S w : Nat) : len w ≤ D6 N len ov S w := dp_ge 63 S w
theorem dp_le {N : Nat} (hN : N ≤ 6) {len : Nat → Nat} {ov : Nat → Nat → Nat} (hlen : ∀ w, w < N → len w ≤ 8) : ∀ n S w, S < 64 → 1 ≤ S → w < N → dp N len ov n S w ≤ 8 * S
  | 0, S, w, _, _, _ => by rw [dp]; omega
  | n + 1, S, w, hS, h1, hw => by
    have hl := hlen w hw
    rw [dp]
    split
    · rename_i hc
      obtain ⟨q1, q2, -⟩ := clr_lt S hS w (by omega) hc.1
      have q3 : clr S w ≠ 0 := fun z => hc.2 (q2.mp z)
      cases hm : mno (fun v => (clr S w).testBit v) (fun v => dp N len ov n (clr S w) v - ov v w) 0 N none with
      | none => simp; omega
      | some x =>
        have := mno_le (B := 8 * clr S w) N 0 none (fun x e => by cases e) (fun i _ hi _ => by
          have := dp_le hN hlen (ov := ov) n (clr S w) i (by omega) (by omega) (by omega)
          show dp N len ov n (clr S w) i - ov i w ≤ _
          omega) x hm
        simp
        omega
    · omega
theorem D6_le {N : Nat} (hN : N ≤ 6) {len : Nat → Nat} {ov : Nat → Nat → Nat} (hlen : ∀ w, w < N → len w ≤ 8) {S w : Nat} (hS : S < 64) (h1 : 1 ≤ S) (hw : w < N) : D6 N len ov S w ≤ 504 := by
  have := dp_le hN hlen (ov := ov) 64 S w hS h1 hw
  unfold D6
  omega
theorem dp_congr {N : Nat} (hN : N ≤ 6) {len : Nat → Nat} {ov ov' : Nat → Nat → Nat} : ∀ n S w, S < 64 → w < N → S.testBit w = true → (∀ v w, v < N → w < N → v ≠ w → S.testBit v = true → S.testBit w = true → ov v w = ov' v w) → dp N len ov n S w = dp N len ov' n S w
  | 0, S, w, _, _, _, _ => rfl
  | n + 1, S, w, hS, hw, ht, h => by
    rw [dp, dp]
    split
    · rename_i hc
      have hl := (clr_lt S hS w (by omega) hc.1).1
      congr 2
      apply mno_congr
      · intro i _ _; rfl
      · intro i _ hi hb
        have ht := clr_t S hS w (by omega)
        have hti : S.testBit i = true ∧ i ≠ w := by
          have := ht i (by omega)
          rw [hb] at this
          have := this.symm
          rw [Bool.and_eq_true, decide_eq_true_eq] at this
          exact this
        rw [dp_congr hN n (clr S w) i (by omega) (by omega) hb (fun a b ha hb' hab h1 h2 => h a b ha hb' hab (by
          have := ht a (by omega); rw [h1] at this; have := this.symm; rw [Bool.and_eq_true] at this; exact this.1) (by
          have := ht b (by omega); rw [h2] at this; have := this.symm; rw [Bool.and_eq_true] at this; exact this.1)), h i w (by omega) hw hti.2 hti.1 hc.1]
    · rfl
/-- what words need: numbers of the fan -/
def wlen (r : Nat → Nat) (w : Nat) : Nat := r (10 + w)
def oC (r : Nat → Nat) (v w : Nat) : Nat := ovC (z_word r v) (z_word r w)
def oR (r : Nat → Nat) (v w : Nat) : Nat := ovR (z_word r v) (z_word r w)
def hld (r : Nat → Nat) (i j : Nat) : Bool := decide (i ≠ j) && lin (z_word r i) (z_word r j)
def hol (r : Nat → Nat) (i : Nat) : Nat := z_or (hld r i) 0 (r 5) 0
def usb (r : Nat → Nat) : Nat := z_or (fun w => !z_bare (z_word r w)) 0 (r 5) 0
def whf (r : Nat → Nat) (S : Nat) : Nat → Nat → Nat → Nat
  | _, 0, acc => acc
  | k, j + 1, acc => whf r S (k + 1) j (if hol r k &&& S = 0 then acc else clr acc k)
def wh (r : Nat → Nat) (S : Nat) : Nat := whf r S 0 (r 5) S
def rowL (r : Nat → Nat) (S : Nat) : Nat := (mno (fun v => (wh r S).testBit v) (D6 (r 5) (wlen r) (oC r) (wh r S)) 0 (r 5) none).getD 0
def OvC (m : Me) (r : Nat → Nat) : Prop := ∀ i j, i < r 5 → j < r 5 → m.1 124 (i * 6 + j) = nI (oC r i j)
def HoC (m : Me) (r : Nat → Nat) : Prop := ∀ i, i < r 5 → m.1 125 i = nI (hol r i)
def TbC (m : Me) (r : Nat → Nat) (b : Nat) : Prop := ∀ S, 1 ≤ S → S < b → sub6 S (usb r) = true → ∀ w, w < r 5 → m.1 126 (S * 6 + w) = if S.testBit w then nI (D6 (r 5) (wlen r) (oC r) S w) else nI 1000
section PK2
variable {m : Me} {H : Bool} {t : Nat} {r s : Nat → Nat} {x1 x2 x3 x4 : Int32}
theorem OKr.w (h : OKr r) : r 5 ≤ 6 ∧ ∀ w, w < r 5 → 1 ≤ wlen r w ∧ wlen r w ≤ 8 := ⟨h.2.2.2.1, fun w hw => ⟨(h.2.2.2.2.2.2.2.1 w hw).1, (h.2.2.2.2.2.2.2.1 w hw).2.1⟩⟩
theorem oC_le (v w : Nat) : oC r v w ≤ wlen r v ∧ oC r v w ≤ wlen r w := by
  have h1 := ovF_le (z_word r v) (z_word r w) (minL (z_word r v) (z_word r w) - 1)
  have h2 := minL_le (z_word r v) (z_word r w)
  rw [z_word_len, z_word_len] at h2
  unfold oC ovC wlen
  omega
theorem oR_le (v w : Nat) : oR r v w ≤ wlen r v ∧ oR r v w ≤ wlen r w := by
  have h1 := ovF_le (z_word r v) (z_word r w) (minL (z_word r v) (z_word r w))
  have h2 := minL_le (z_word r v) (z_word r w)
  rw [z_word_len, z_word_len] at h2
  unfold oR ovR wlen
  omega
theorem hol_lt (h : OKr r) (i : Nat) : hol r i < 64 := Nat.lt_of_lt_of_le (z_or_lt _ _) (pw6 h.w.1)
theorem usb_lt (h : OKr r) : usb r < 64 := Nat.lt_of_lt_of_le (z_or_lt _ _) (pw6 h.w.1)
/-- the frame of the packer: nothing but its rows -/
def PF (m m' : Me) : Prop := Ak sC m m' ∧ ∀ b k, (b < 123 ∨ 126 < b) → m'.1 b k = m.1 b k
theorem PF.rf (m : Me) : PF m m := ⟨Ak.rf m, fun _ _ _ => rfl⟩
theorem PF.tr {m m' m'' : Me} (h : PF m m') (h' : PF m' m'') : PF m m'' := ⟨h.1.tr h'.1, fun b k hb => (h'.2 b k hb).trans (h.2 b k hb)⟩
theorem PF.set {m m' : Me} (h : PF m m') {a j : Nat} (x : Int32) (ha : 123 ≤ a ∧ a ≤ 126) : PF m (setI m' a j x) := ⟨h.1.set x (sC_in (by omega) j), fun b k hb => (sI_na (by omega)).trans (h.2 b k hb)⟩
theorem cw19 (hO : KO r s) {i : Nat} (hi : i < r 5) {k2 : Nat → Int32 → Me → Option Me} : ∀ j k n acc (m : Me), KC m t r s → (∀ a b, a < r 5 → b < r 5 → (a < i ∨ a = i ∧ b < k) → m.1 124 (a * 6 + b) = nI (oC r a b)) → (∀ a, a < i → m.1 125 a = nI (hol r a)) → m.1 125 i = nI acc → k + j = r 5 → j < n → ∃ m', fX4_compareWords_19 n k2 t (nI i) (nI k) m = k2 t (nI (i + 1)) m' ∧ PF m m' ∧ KC m' t r s ∧ (∀ a b, a < r 5 → b < r 5 → a < i + 1 → m'.1 124 (a * 6 + b) = nI (oC r a b)) ∧ (∀ a, a < i → m'.1 125 a = nI (hol r a)) ∧ m'.1 125 i = nI (z_or (hld r i) k j acc) := by
  have h5 := hO.1.w.1
  intro j
  induction j with
  | zero =>
    intro k n acc m h hT hH hA hk hn
    obtain ⟨n, rfl⟩ : ∃ n', n = n' + 1 := ⟨n - 1, by omega⟩
    have e7 := h.2.2.1.2.1.2.1
    refine ⟨m, ?_, PF.rf m, h, fun a b ha hb hi' => hT a b ha hb (by omega), hH, hA⟩
    rw [fX4_compareWords_19]
    simp (disch := omega) only [e7, cl2_so, cl1_so, ck_tr, zl_0, zl_1, zl_2, zl_3, zl_4, zl_5, zl_6, zl_7, zl_8, zl_9, zl_10, zl_11, zl_12, zl_15, zl_16, zl_20, zl_24, zl_25, zl_30, zl_31, zl_32, zl_33, zl_44, zl_48, zl_50, zl_57, zl_59, zl_60, zl_61, zl_62, zl_63, zl_64, zl_68, zl_97, zl_99, zl_100, zl_104, zl_108, zl_114, zl_120, zl_122, zl_126, zl_132, zl_180, zl_181, zl_186, zl_255, zl_900, zl_930, zl_1000, zl_1000000, nI_add, pk_mul, zs_sub, zs_lt, zs_le, zs_eq, zs_inb, zs_cl, zm_eq, zm_eq2, zm_lt, zm_le, mz_lt, mz_le, mm_eq, zs_bit, zs_or1, zs_div, zs_rem, ck_pos, if_pos, if_neg, true_or, or_true, true_and, and_true, false_or, or_false, false_and, and_false, not_true, not_false_iff, if_true, if_false, eq_self, Bool.false_eq_true, cl2_id, Bool.not_true, Bool.not_false]
  | succ j ih =>
    intro k n acc m h hT hH hA hk hn
    obtain ⟨n, rfl⟩ : ∃ n', n = n' + 1 := ⟨n - 1, by omega⟩
    have e7 := h.2.2.1.2.1.2.1
    have ht := h.tt
    have eo := fX4_overlapOf_e (h.word hi) (h.word (w := k) (by omega)) (word_ok hO.1 hi) (word_ok hO.1 (w := k) (by omega))
    have eo' : fX4_overlapOf (t + 7 + 2 * i) (t + 7 + 2 * k) m = some (nI (oC r i k), m) := eo
    have p1 : PF m (setI m 124 (i * 6 + k) (nI (oC r i k))) := (PF.rf m).set _ (by omega)
    have h1 := h.ag hO p1.1.agC
    have hT1 : ∀ a b, a < r 5 → b < r 5 → (a < i ∨ a = i ∧ b < k + 1) → (setI m 124 (i * 6 + k) (nI (oC r i k))).1 124 (a * 6 + b) = nI (oC r a b) := by
      intro a b ha hb hab
      by_cases q : a = i ∧ b = k
      · rw [q.1, q.2, sI_eq]
      · rw [sI_nj (by omega)]
        exact hT a b ha hb (by omega)
    rw [fX4_compareWords_19, z_or]
    unfold fX4_compareWords_88
    by_cases hik : i = k
    · have hh : hld r i k = false := by unfold hld; rw [decide_eq_false (fun q => q hik)]; rfl
      obtain ⟨m2, f1, f2, f3, f4, f5, f6⟩ := ih (k + 1) n acc _ h1 hT1 (fun a ha => (sI_na (by decide)).trans (hH a ha)) ((sI_na (by decide)).trans hA) (by omega) (by omega)
      refine ⟨m2, ?_, p1.tr f2, f3, f4, f5, by rw [hh]; exact f6⟩
      subst hik
      simp (disch := omega) only [e7, eo', cl2_so, cl1_so, ck_tr, zl_0, zl_1, zl_2, zl_3, zl_4, zl_5, zl_6, zl_7, zl_8, zl_9, zl_10, zl_11, zl_12, zl_15, zl_16, zl_20, zl_24, zl_25, zl_30, zl_31, zl_32, zl_33, zl_44, zl_48, zl_50, zl_57, zl_59, zl_60, zl_61, zl_62, zl_63, zl_64, zl_68, zl_97, zl_99, zl_100, zl_104, zl_108, zl_114, zl_120, zl_122, zl_126, zl_132, zl_180, zl_181, zl_186, zl_255, zl_900, zl_930, zl_1000, zl_1000000, nI_add, pk_mul, zs_sub, zs_lt, zs_le, zs_eq, zs_inb, zs_cl, zm_eq, zm_eq2, zm_lt, zm_le, mz_lt, mz_le, mm_eq, zs_bit, zs_or1, zs_div, zs_rem, ck_pos, if_pos, if_neg, true_or, or_true, true_and, and_true, false_or, or_false, false_and, and_false, not_true, not_false_iff, if_true, if_false, eq_self, Bool.false_eq_true, cl2_id, Bool.not_true, Bool.not_false]
      exact f1
    · have el := fX8_liesIn_e (h1.word hi) (h1.word (w := k) (by omega)) (word_ok hO.1 hi).lt (word_ok hO.1 (w := k) (by omega)).lt
      have hh : hld r i k = lin (z_word r i) (z_word r k) := by unfold hld; rw [decide_eq_true hik]; rfl
      rw [hh]
      cases hl : lin (z_word r i) (z_word r k)
      · rw [hl] at el
        obtain ⟨m2, f1, f2, f3, f4, f5, f6⟩ := ih (k + 1) n acc _ h1 hT1 (fun a ha => (sI_na (by decide)).trans (hH a ha)) ((sI_na (by decide)).trans hA) (by omega) (by omega)
        refine ⟨m2, ?_, p1.tr f2, f3, f4, f5, f6⟩
        simp (disch := omega) only [e7, eo', hik, el, cl2_so, cl1_so, ck_tr, zl_0, zl_1, zl_2, zl_3, zl_4, zl_5, zl_6, zl_7, zl_8, zl_9, zl_10, zl_11, zl_12, zl_15, zl_16, zl_20, zl_24, zl_25, zl_30, zl_31, zl_32, zl_33, zl_44, zl_48, zl_50, zl_57, zl_59, zl_60, zl_61, zl_62, zl_63, zl_64, zl_68, zl_97, zl_99, zl_100, zl_104, zl_108, zl_114, zl_120, zl_122, zl_126, zl_132, zl_180, zl_181, zl_186, zl_255, zl_900, zl_930, zl_1000, zl_1000000, nI_add, pk_mul, zs_sub, zs_lt, zs_le, zs_eq, zs_inb, zs_cl, zm_eq, zm_eq2, zm_lt, zm_le, mz_lt, mz_le, mm_eq, zs_bit, zs_or1, zs_div, zs_rem, ck_pos, if_pos, if_neg, true_or, or_true, true_and, and_true, false_or, or_false, false_and, and_false, not_true, not_false_iff, if_true, if_false, eq_self, Bool.false_eq_true, cl2_id, Bool.not_true, Bool.not_false]
        exact f1
      · rw [hl] at el
        have eA : (setI m 124 (i * 6 + k) (nI (oC r i k))).1 125 i = nI acc := (sI_na (by decide)).trans hA
        have p2 : PF m (setI (setI m 124 (i * 6 + k) (nI (oC r i k))) 125 i (nI (acc ||| 2 ^ k))) := p1.set _ (by omega)
        obtain ⟨m2, f1, f2, f3, f4, f5, f6⟩ := ih (k + 1) n (acc ||| 2 ^ k) _ (h.ag hO p2.1.agC) (fun a b ha hb hab => (sI_na (by decide)).trans (hT1 a b ha hb hab)) (fun a ha => (sI_nj (by omega)).trans ((sI_na (by decide)).trans (hH a ha))) (sI_eq _ _ _ _) (by omega) (by omega)
        refine ⟨m2, ?_, p2.tr f2, f3, f4, f5, f6⟩
        simp (disch := omega) only [e7, eo', hik, el, eA, cl2_so, cl1_so, ck_tr, zl_0, zl_1, zl_2, zl_3, zl_4, zl_5, zl_6, zl_7, zl_8, zl_9, zl_10, zl_11, zl_12, zl_15, zl_16, zl_20, zl_24, zl_25, zl_30, zl_31, zl_32, zl_33, zl_44, zl_48, zl_50, zl_57, zl_59, zl_60, zl_61, zl_62, zl_63, zl_64, zl_68, zl_97, zl_99, zl_100, zl_104, zl_108, zl_114, zl_120, zl_122, zl_126, zl_132, zl_180, zl_181, zl_186, zl_255, zl_900, zl_930, zl_1000, zl_1000000, nI_add, pk_mul, zs_sub, zs_lt, zs_le, zs_eq, zs_inb, zs_cl, zm_eq, zm_eq2, zm_lt, zm_le, mz_lt, mz_le, mm_eq, zs_bit, zs_or1, zs_div, zs_rem, ck_pos, if_pos, if_neg, true_or, or_true, true_and, and_true, false_or, or_false, false_and, and_false, not_true, not_false_iff, if_true, if_false, eq_self, Bool.false_eq_true, cl2_id, Bool.not_true, Bool.not_false]
        exact f1
theorem cw2 (hO : KO r s) : ∀ j k n (m : Me), KC m t r s → (∀ a b, a < r 5 → b < r 5 → a < k → m.1 124 (a * 6 + b) = nI (oC r a b)) → (∀ a, a < k → m.1 125 a = nI (hol r a)) → k + j = r 5 → j < n → ∃ m', fX4_compareWords_2 n t (nI k) m = some m' ∧ PF m m' ∧ KC m' t r s ∧ OvC m' r ∧ HoC m' r := by
  have h5 := hO.1.w.1
  intro j
  induction j with
  | zero =>
    intro k n m h hT hH hk hn
    obtain ⟨n, rfl⟩ : ∃ n', n = n' + 1 := ⟨n - 1, by omega⟩
    have e7 := h.2.2.1.2.1.2.1
    refine ⟨m, ?_, PF.rf m, h, fun a b ha hb => hT a b ha hb (by omega), fun a ha => hH a (by omega)⟩
    rw [fX4_compareWords_2]
    simp (disch := omega) only [e7, cl2_so, cl1_so, ck_tr, zl_0, zl_1, zl_2, zl_3, zl_4, zl_5, zl_6, zl_7, zl_8, zl_9, zl_10, zl_11, zl_12, zl_15, zl_16, zl_20, zl_24, zl_25, zl_30, zl_31, zl_32, zl_33, zl_44, zl_48, zl_50, zl_57, zl_59, zl_60, zl_61, zl_62, zl_63, zl_64, zl_68, zl_97, zl_99, zl_100, zl_104, zl_108, zl_114, zl_120, zl_122, zl_126, zl_132, zl_180, zl_181, zl_186, zl_255, zl_900, zl_930, zl_1000, zl_1000000, nI_add, pk_mul, zs_sub, zs_lt, zs_le, zs_eq, zs_inb, zs_cl, zm_eq, zm_eq2, zm_lt, zm_le, mz_lt, mz_le, mm_eq, zs_bit, zs_or1, zs_div, zs_rem, ck_pos, if_pos, if_neg, true_or, or_true, true_and, and_true, false_or, or_false, false_and, and_false, not_true, not_false_iff, if_true, if_false, eq_self, Bool.false_eq_true, cl2_id, Bool.not_true, Bool.not_false]
  | succ j ih =>
    intro k n m h hT hH hk hn
    obtain ⟨n, rfl⟩ : ∃ n', n = n' + 1 := ⟨n - 1, by omega⟩
    have e7 := h.2.2.1.2.1.2.1
    have p1 : PF m (setI m 125 k (nI 0)) := (PF.rf m).set _ (by omega)
    obtain ⟨m1, e1, a1, b1, c1, d1, f1⟩ := cw19 (t := t) hO (i := k) (by omega) (k2 := fX4_compareWords_2 n) (r 5) 0 FU 0 _ (h.ag hO p1.1.agC) (fun a b ha hb hab => (sI_na (by decide)).trans (hT a b ha hb (by omega))) (fun a ha => (sI_nj (by omega)).trans (hH a ha)) (sI_eq _ _ _ _) (by omega) (FU_pos (by omega))
    obtain ⟨m2, g1, g2, g3, g4⟩ := ih (k + 1) n m1 b1 c1 (fun a ha => by
      by_cases q : a = k
      · subst q; exact f1
      · exact d1 a (by omega)) (by omega) (by omega)
    refine ⟨m2, ?_, (p1.tr a1).tr g2, g3, g4⟩
    rw [fX4_compareWords_2]
    simp (disch := omega) only [e7, cl2_so, cl1_so, ck_tr, zl_0, zl_1, zl_2, zl_3, zl_4, zl_5, zl_6, zl_7, zl_8, zl_9, zl_10, zl_11, zl_12, zl_15, zl_16, zl_20, zl_24, zl_25, zl_30, zl_31, zl_32, zl_33, zl_44, zl_48, zl_50, zl_57, zl_59, zl_60, zl_61, zl_62, zl_63, zl_64, zl_68, zl_97, zl_99, zl_100, zl_104, zl_108, zl_114, zl_120, zl_122, zl_126, zl_132, zl_180, zl_181, zl_186, zl_255, zl_900, zl_930, zl_1000, zl_1000000, nI_add, pk_mul, zs_sub, zs_lt, zs_le, zs_eq, zs_inb, zs_cl, zm_eq, zm_eq2, zm_lt, zm_le, mz_lt, mz_le, mm_eq, zs_bit, zs_or1, zs_div, zs_rem, ck_pos, if_pos, if_neg, true_or, or_true, true_and, and_true, false_or, or_false, false_and, and_false, not_true, not_false_iff, if_true, if_false, eq_self, Bool.false_eq_true, cl2_id, Bool.not_true, Bool.not_false]
    exact e1.trans g1
theorem KC.compare (h : KC m t r s) (hO : KO r s) : ∃ m', fX4_compareWords t m = some m' ∧ PF m m' ∧ KC m' t r s ∧ OvC m' r ∧ HoC m' r := by
  have h5 := hO.1.w.1
  exact cw2 hO (r 5) 0 FU m h (fun a b ha hb q => by omega) (fun a q => by omega) (by omega) (FU_pos (by omega))
theorem sa8 (hO : KO r s) (h : KC m t r s) (hV : OvC m r) {R w : Nat} (hR : R < 64) (h1 : 1 ≤ R) (hw : w < r 5) (hT : ∀ v, v < r 5 → R.testBit v = true → m.1 126 (R * 6 + v) = nI (D6 (r 5) (wlen r) (oC r) R v)) : ∀ j k n o, k + j = r 5 → j < n → (∀ x, o = some x → x ≤ 504) → fX4_shortestAhead_8 n t (nI R) (nI w) (nI (o.getD 1000)) (nI k) m = some (nI ((mno (fun v => R.testBit v) (fun v => D6 (r 5) (wlen r) (oC r) R v - oC r v w) k j o).getD 1000), m) := by
  have h5 := hO.1.w.1
  have hlen := hO.1.w.2
  have e7 := h.2.2.1.2.1.2.1
  intro j
  induction j with
  | zero =>
    intro k n o hk hn ho
    obtain ⟨n, rfl⟩ : ∃ n', n = n' + 1 := ⟨n - 1, by omega⟩
    rw [fX4_shortestAhead_8, mno]
    simp (disch := omega) only [e7, cl2_so, cl1_so, ck_tr, zl_0, zl_1, zl_2, zl_3, zl_4, zl_5, zl_6, zl_7, zl_8, zl_9, zl_10, zl_11, zl_12, zl_15, zl_16, zl_20, zl_24, zl_25, zl_30, zl_31, zl_32, zl_33, zl_44, zl_48, zl_50, zl_57, zl_59, zl_60, zl_61, zl_62, zl_63, zl_64, zl_68, zl_97, zl_99, zl_100, zl_104, zl_108, zl_114, zl_120, zl_122, zl_126, zl_132, zl_180, zl_181, zl_186, zl_255, zl_900, zl_930, zl_1000, zl_1000000, nI_add, pk_mul, zs_sub, zs_lt, zs_le, zs_eq, zs_inb, zs_cl, zm_eq, zm_eq2, zm_lt, zm_le, mz_lt, mz_le, mm_eq, zs_bit, zs_or1, zs_div, zs_rem, ck_pos, if_pos, if_neg, true_or, or_true, true_and, and_true, false_or, or_false, false_and, and_false, not_true, not_false_iff, if_true, if_false, eq_self, Bool.false_eq_true, cl2_id, Bool.not_true, Bool.not_false]
  | succ j ih =>
    intro k n o hk hn ho
    obtain ⟨n, rfl⟩ : ∃ n', n = n' + 1 := ⟨n - 1, by omega⟩
    rw [fX4_shortestAhead_8, mno]
    unfold fX4_shortestAhead_58
    cases hb : R.testBit k
    · simp (disch := omega) only [e7, hb, cl2_so, cl1_so, ck_tr, zl_0, zl_1, zl_2, zl_3, zl_4, zl_5, zl_6, zl_7, zl_8, zl_9, zl_10, zl_11, zl_12, zl_15, zl_16, zl_20, zl_24, zl_25, zl_30, zl_31, zl_32, zl_33, zl_44, zl_48, zl_50, zl_57, zl_59, zl_60, zl_61, zl_62, zl_63, zl_64, zl_68, zl_97, zl_99, zl_100, zl_104, zl_108, zl_114, zl_120, zl_122, zl_126, zl_132, zl_180, zl_181, zl_186, zl_255, zl_900, zl_930, zl_1000, zl_1000000, nI_add, pk_mul, zs_sub, zs_lt, zs_le, zs_eq, zs_inb, zs_cl, zm_eq, zm_eq2, zm_lt, zm_le, mz_lt, mz_le, mm_eq, zs_bit, zs_or1, zs_div, zs_rem, ck_pos, if_pos, if_neg, true_or, or_true, true_and, and_true, false_or, or_false, false_and, and_false, not_true, not_false_iff, if_true, if_false, eq_self, Bool.false_eq_true, cl2_id, Bool.not_true, Bool.not_false]
      exact ih (k + 1) n o (by omega) (by omega) ho
    · have e1 := hT k (by omega) hb
      have e2 := hV k w (by omega) hw
      have hle := D6_le h5 (ov := oC r) (fun w hw => (hlen w hw).2) hR h1 (show k < r 5 by omega)
      have hge := D6_ge (N := r 5) (len := wlen r) (ov := oC r) R k
      have hov := (oC_le (r := r) k w).1
      cases o with
      | none =>
        have ih' := ih (k + 1) n (some (D6 (r 5) (wlen r) (oC r) R k - oC r k w)) (by omega) (by omega) (fun x hx => by have := Option.some.inj hx; omega)
        simp only [Option.getD] at ih' ⊢
        simp (disch := omega) only [e7, hb, e1, e2, mnS, cl2_so, cl1_so, ck_tr, zl_0, zl_1, zl_2, zl_3, zl_4, zl_5, zl_6, zl_7, zl_8, zl_9, zl_10, zl_11, zl_12, zl_15, zl_16, zl_20, zl_24, zl_25, zl_30, zl_31, zl_32, zl_33, zl_44, zl_48, zl_50, zl_57, zl_59, zl_60, zl_61, zl_62, zl_63, zl_64, zl_68, zl_97, zl_99, zl_100, zl_104, zl_108, zl_114, zl_120, zl_122, zl_126, zl_132, zl_180, zl_181, zl_186, zl_255, zl_900, zl_930, zl_1000, zl_1000000, nI_add, pk_mul, zs_sub, zs_lt, zs_le, zs_eq, zs_inb, zs_cl, zm_eq, zm_eq2, zm_lt, zm_le, mz_lt, mz_le, mm_eq, zs_bit, zs_or1, zs_div, zs_rem, ck_pos, if_pos, if_neg, true_or, or_true, true_and, and_true, false_or, or_false, false_and, and_false, not_true, not_false_iff, if_true, if_false, eq_self, Bool.false_eq_true, cl2_id, Bool.not_true, Bool.not_false]
        exact ih'
      | some x =>
        have hx := ho x rfl
        by_cases hq : D6 (r 5) (wlen r) (oC r) R k - oC r k w < x
        · have ih' := ih (k + 1) n (some (D6 (r 5) (wlen r) (oC r) R k - oC r k w)) (by omega) (by omega) (fun x hx => by have := Option.some.inj hx; omega)
          simp only [Option.getD] at ih' ⊢
          simp (disch := omega) only [e7, hb, e1, e2, mnS, cl2_so, cl1_so, ck_tr, zl_0, zl_1, zl_2, zl_3, zl_4, zl_5, zl_6, zl_7, zl_8, zl_9, zl_10, zl_11, zl_12, zl_15, zl_16, zl_20, zl_24, zl_25, zl_30, zl_31, zl_32, zl_33, zl_44, zl_48, zl_50, zl_57, zl_59, zl_60, zl_61, zl_62, zl_63, zl_64, zl_68, zl_97, zl_99, zl_100, zl_104, zl_108, zl_114, zl_120, zl_122, zl_126, zl_132, zl_180, zl_181, zl_186, zl_255, zl_900, zl_930, zl_1000, zl_1000000, nI_add, pk_mul, zs_sub, zs_lt, zs_le, zs_eq, zs_inb, zs_cl, zm_eq, zm_eq2, zm_lt, zm_le, mz_lt, mz_le, mm_eq, zs_bit, zs_or1, zs_div, zs_rem, ck_pos, if_pos, if_neg, true_or, or_true, true_and, and_true, false_or, or_false, false_and, and_false, not_true, not_false_iff, if_true, if_false, eq_self, Bool.false_eq_true, cl2_id, Bool.not_true, Bool.not_false]
          exact ih'
        · have ih' := ih (k + 1) n (some x) (by omega) (by omega) ho
          simp only [Option.getD] at ih' ⊢
          simp (disch := omega) only [e7, hb, e1, e2, mnS, cl2_so, cl1_so, ck_tr, zl_0, zl_1, zl_2, zl_3, zl_4, zl_5, zl_6, zl_7, zl_8, zl_9, zl_10, zl_11, zl_12, zl_15, zl_16, zl_20, zl_24, zl_25, zl_30, zl_31, zl_32, zl_33, zl_44, zl_48, zl_50, zl_57, zl_59, zl_60, zl_61, zl_62, zl_63, zl_64, zl_68, zl_97, zl_99, zl_100, zl_104, zl_108, zl_114, zl_120, zl_122, zl_126, zl_132, zl_180, zl_181, zl_186, zl_255, zl_900, zl_930, zl_1000, zl_1000000, nI_add, pk_mul, zs_sub, zs_lt, zs_le, zs_eq, zs_inb, zs_cl, zm_eq, zm_eq2, zm_lt, zm_le, mz_lt, mz_le, mm_eq, zs_bit, zs_or1, zs_div, zs_rem, ck_pos, if_pos, if_neg, true_or, or_true, true_and, and_true, false_or, or_false, false_and, and_false, not_true, not_false_iff, if_true, if_false, eq_self, Bool.false_eq_true, cl2_id, Bool.not_true, Bool.not_false]
          exact ih'
theorem fs2 (hO : KO r s) {S : Nat} (hS : S < 2 ^ r 5) (h1 : 1 ≤ S) (hu : sub6 S (usb r) = true) : ∀ j k n (m : Me), KC m t r s → OvC m r → HoC m r → TbC m r S → (∀ w, w < k → m.1 126 (S * 6 + w) = if S.testBit w then nI (D6 (r 5) (wlen r) (oC r) S w) else nI 1000) → k + j = r 5 → j < n → ∃ m', fX4_findShortest_2 n t (nI S) (nI k) m = some m' ∧ PF m m' ∧ KC m' t r s ∧ OvC m' r ∧ HoC m' r ∧ TbC m' r (S + 1) ∧ (∀ j, m'.1 123 j = m.1 123 j) := by
  have h5 := hO.1.w.1
  have hlen := hO.1.w.2
  have hS6 : S < 64 := Nat.lt_of_lt_of_le hS (pw6 h5)
  intro j
  induction j with
  | zero =>
    intro k n m h hV hH hT hR hk hn
    obtain ⟨n, rfl⟩ : ∃ n', n = n' + 1 := ⟨n - 1, by omega⟩
    have e7 := h.2.2.1.2.1.2.1
    refine ⟨m, ?_, PF.rf m, h, hV, hH, fun S' a b c w hw => ?_, fun _ => rfl⟩
    · rw [fX4_findShortest_2]
      simp (disch := omega) only [e7, cl2_so, cl1_so, ck_tr, zl_0, zl_1, zl_2, zl_3, zl_4, zl_5, zl_6, zl_7, zl_8, zl_9, zl_10, zl_11, zl_12, zl_15, zl_16, zl_20, zl_24, zl_25, zl_30, zl_31, zl_32, zl_33, zl_44, zl_48, zl_50, zl_57, zl_59, zl_60, zl_61, zl_62, zl_63, zl_64, zl_68, zl_97, zl_99, zl_100, zl_104, zl_108, zl_114, zl_120, zl_122, zl_126, zl_132, zl_180, zl_181, zl_186, zl_255, zl_900, zl_930, zl_1000, zl_1000000, nI_add, pk_mul, zs_sub, zs_lt, zs_le, zs_eq, zs_inb, zs_cl, zm_eq, zm_eq2, zm_lt, zm_le, mz_lt, mz_le, mm_eq, zs_bit, zs_or1, zs_div, zs_rem, ck_pos, if_pos, if_neg, true_or, or_true, true_and, and_true, false_or, or_false, false_and, and_false, not_true, not_false_iff, if_true, if_false, eq_self, Bool.false_eq_true, cl2_id, Bool.not_true, Bool.not_false]
    · by_cases q : S' = S
      · subst q; exact hR w (by omega)
      · exact hT S' a (by omega) c w hw
  | succ j ih =>
    intro k n m h hV hH hT hR hk hn
    obtain ⟨n, rfl⟩ : ∃ n', n = n' + 1 := ⟨n - 1, by omega⟩
    have e7 := h.2.2.1.2.1.2.1
    have ec := clr_I S hS6 k (by omega)
    have cle := clr_le S k
    have go : ∀ x, (nI x = if S.testBit k then nI (D6 (r 5) (wlen r) (oC r) S k) else nI 1000) → ∃ m', fX4_findShortest_2 n t (nI S) (nI (k + 1)) (setI m 126 (S * 6 + k) (nI x)) = some m' ∧ PF m m' ∧ KC m' t r s ∧ OvC m' r ∧ HoC m' r ∧ TbC m' r (S + 1) ∧ (∀ j, m'.1 123 j = m.1 123 j) := by
      intro x hx
      have p1 : PF m (setI m 126 (S * 6 + k) (nI x)) := (PF.rf m).set _ (by omega)
      obtain ⟨m2, f1, f2, f3, f4, f5, f6, f7⟩ := ih (k + 1) n _ (h.ag hO p1.1.agC) (fun a b ha hb => (sI_na (by decide)).trans (hV a b ha hb)) (fun a ha => (sI_na (by decide)).trans (hH a ha)) (fun S' a b c w hw => (sI_nj (by omega)).trans (hT S' a b c w hw)) (fun w hw => by
        by_cases q : w = k
        · subst q; rw [sI_eq]; exact hx
        · rw [sI_nj (by omega)]; exact hR w (by omega)) (by omega) (by omega)
      exact ⟨m2, f1, p1.tr f2, f3, f4, f5, f6, fun j => (f7 j).trans (sI_na (by decide))⟩
    rw [fX4_findShortest_2]
    unfold fX4_findShortest_95
    cases hb : S.testBit k
    · obtain ⟨m2, f1, f2⟩ := go 1000 (by rw [hb]; rfl)
      refine ⟨m2, ?_, f2⟩
      have ec2 := clr_n hb
      simp (disch := omega) only [e7, ec, ec2, cl2_so, cl1_so, ck_tr, zl_0, zl_1, zl_2, zl_3, zl_4, zl_5, zl_6, zl_7, zl_8, zl_9, zl_10, zl_11, zl_12, zl_15, zl_16, zl_20, zl_24, zl_25, zl_30, zl_31, zl_32, zl_33, zl_44, zl_48, zl_50, zl_57, zl_59, zl_60, zl_61, zl_62, zl_63, zl_64, zl_68, zl_97, zl_99, zl_100, zl_104, zl_108, zl_114, zl_120, zl_122, zl_126, zl_132, zl_180, zl_181, zl_186, zl_255, zl_900, zl_930, zl_1000, zl_1000000, nI_add, pk_mul, zs_sub, zs_lt, zs_le, zs_eq, zs_inb, zs_cl, zm_eq, zm_eq2, zm_lt, zm_le, mz_lt, mz_le, mm_eq, zs_bit, zs_or1, zs_div, zs_rem, ck_pos, if_pos, if_neg, true_or, or_true, true_and, and_true, false_or, or_false, false_and, and_false, not_true, not_false_iff, if_true, if_false, eq_self, Bool.false_eq_true, cl2_id, Bool.not_true, Bool.not_false]
      exact f1
    · obtain ⟨q1, q2, q3⟩ := clr_lt S hS6 k (by omega) hb
      by_cases hz : S = 2 ^ k
      · have hz0 := q2.mpr hz
        have ew : m.1 (t + 7 + 2 * k) 1 = nI (wlen r k) := by
          rw [(h.word (w := k) (by omega)).1, z_word_len]
          rfl
        obtain ⟨m2, f1, f2⟩ := go (wlen r k) (by rw [hb]; show _ = nI _; rw [hz, D6_1])
        refine ⟨m2, ?_, f2⟩
        have hne : ¬ 0 = S := by omega
        simp (disch := omega) only [e7, ec, hz0, hne, ew, cl2_so, cl1_so, ck_tr, zl_0, zl_1, zl_2, zl_3, zl_4, zl_5, zl_6, zl_7, zl_8, zl_9, zl_10, zl_11, zl_12, zl_15, zl_16, zl_20, zl_24, zl_25, zl_30, zl_31, zl_32, zl_33, zl_44, zl_48, zl_50, zl_57, zl_59, zl_60, zl_61, zl_62, zl_63, zl_64, zl_68, zl_97, zl_99, zl_100, zl_104, zl_108, zl_114, zl_120, zl_122, zl_126, zl_132, zl_180, zl_181, zl_186, zl_255, zl_900, zl_930, zl_1000, zl_1000000, nI_add, pk_mul, zs_sub, zs_lt, zs_le, zs_eq, zs_inb, zs_cl, zm_eq, zm_eq2, zm_lt, zm_le, mz_lt, mz_le, mm_eq, zs_bit, zs_or1, zs_div, zs_rem, ck_pos, if_pos, if_neg, true_or, or_true, true_and, and_true, false_or, or_false, false_and, and_false, not_true, not_false_iff, if_true, if_false, eq_self, Bool.false_eq_true, cl2_id, Bool.not_true, Bool.not_false]
        exact f1
      · have hz0 : ¬ clr S k = 0 := fun z => hz (q2.mp z)
        have ew : m.1 (t + 7 + 2 * k) 1 = nI (wlen r k) := by
          rw [(h.word (w := k) (by omega)).1, z_word_len]
          rfl
        have hsub : sub6 (clr S k) (usb r) = true := by
          rw [sub6_iff _ (by omega) _ (usb_lt hO.1)]
          intro v hv hcv
          rw [clr_t S hS6 k (by omega) v hv, Bool.and_eq_true] at hcv
          exact (sub6_iff _ hS6 _ (usb_lt hO.1)).mp hu v hv hcv.1
        have esa := sa8 hO h hV (R := clr S k) (w := k) (by omega) (by omega) (by omega) (fun v hv hb' => by
          have := hT (clr S k) (by omega) q1 hsub v hv
          rw [hb'] at this
          exact this) (r 5) 0 FU none (by omega) (FU_pos (by omega)) (fun x e => by cases e)
        have eD := D6_2 h5 (len := wlen r) (ov := oC r) hS6 (show k < r 5 by omega) hb hz
        obtain ⟨v, hv6, hvb⟩ := nz6 (clr S k) (by omega) (by omega)
        have hvN : v < r 5 := by
          rcases Nat.lt_or_ge v (r 5) with q | q
          · exact q
          · rw [clr_t S hS6 k (by omega) v hv6, t_hi hS q] at hvb
            cases hvb
        have hsome := mno_some (g := fun v => (clr S k).testBit v) (f := fun v => D6 (r 5) (wlen r) (oC r) (clr S k) v - oC r v k) (r 5) 0 none (Or.inr ⟨v, by omega, by omega, hvb⟩)
        have hbd := mno_le (g := fun v => (clr S k).testBit v) (f := fun v => D6 (r 5) (wlen r) (oC r) (clr S k) v - oC r v k) (B := 504) (r 5) 0 none (fun x e => by cases e) (fun i _ hi _ => by
          have := D6_le h5 (ov := oC r) (fun w hw => (hlen w hw).2) (show clr S k < 64 by omega) (show 1 ≤ clr S k by omega) (show i < r 5 by omega)
          show D6 (r 5) (wlen r) (oC r) (clr S k) i - oC r i k ≤ 504
          omega)
        cases hm : mno (fun v => (clr S k).testBit v) (fun v => D6 (r 5) (wlen r) (oC r) (clr S k) v - oC r v k) 0 (r 5) none with
        | none => exact absurd hm hsome
        | some x =>
          have hx := hbd x hm
          rw [hm] at esa eD
          obtain ⟨m2, f1, f2⟩ := go (wlen r k + x) (by rw [hb]; show _ = nI _; rw [eD]; rfl)
          refine ⟨m2, ?_, f2⟩
          have esa' : fX4_shortestAhead t (nI (clr S k)) (nI k) m = some (nI x, m) := esa
          have hne : ¬ clr S k = S := by omega
          simp (disch := omega) only [e7, ec, hz0, hne, ew, esa', cl2_so, cl1_so, ck_tr, zl_0, zl_1, zl_2, zl_3, zl_4, zl_5, zl_6, zl_7, zl_8, zl_9, zl_10, zl_11, zl_12, zl_15, zl_16, zl_20, zl_24, zl_25, zl_30, zl_31, zl_32, zl_33, zl_44, zl_48, zl_50, zl_57, zl_59, zl_60, zl_61, zl_62, zl_63, zl_64, zl_68, zl_97, zl_99, zl_100, zl_104, zl_108, zl_114, zl_120, zl_122, zl_126, zl_132, zl_180, zl_181, zl_186, zl_255, zl_900, zl_930, zl_1000, zl_1000000, nI_add, pk_mul, zs_sub, zs_lt, zs_le, zs_eq, zs_inb, zs_cl, zm_eq, zm_eq2, zm_lt, zm_le, mz_lt, mz_le, mm_eq, zs_bit, zs_or1, zs_div, zs_rem, ck_pos, if_pos, if_neg, true_or, or_true, true_and, and_true, false_or, or_false, false_and, and_false, not_true, not_false_iff, if_true, if_false, eq_self, Bool.false_eq_true, cl2_id, Bool.not_true, Bool.not_false]
          exact f1
end PK2
