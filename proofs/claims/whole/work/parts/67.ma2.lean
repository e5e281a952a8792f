/-! mendAll: the reference's whole call; sides apart; what is shared -/
def cpM (m : Me) (a0 p a2 d L : Nat) : Me := (fun b i => if b = a2 ∧ d ≤ i ∧ i < d + L then m.1 a0 (p + (i - d)) else m.1 b i, m.2)
theorem cpM_1 (m : Me) (a0 p a2 d L b i : Nat) : (cpM m a0 p a2 d L).1 b i = if b = a2 ∧ d ≤ i ∧ i < d + L then m.1 a0 (p + (i - d)) else m.1 b i := rfl
theorem cpM_0 (m : Me) (a0 p a2 d : Nat) : cpM m a0 p a2 d 0 = m := by
  refine me_ext (fun b i => ?_) (fun _ _ => rfl)
  rw [cpM_1, if_neg (by omega)]
theorem cpM_s {m : Me} {a0 p a2 d L : Nat} (h : a0 ≠ a2) : setI (cpM m a0 p a2 d L) a2 (d + L) ((cpM m a0 p a2 d L).1 a0 (p + L)) = cpM m a0 p a2 d (L + 1) := by
  refine me_ext (fun b i => ?_) (fun _ _ => rfl)
  rw [sI_1, cpM_1, cpM_1, cpM_1, if_neg (c := a0 = a2 ∧ _) (fun e => h e.1)]
  by_cases hb : b = a2
  · subst hb
    by_cases hi : i = d + L
    · subst hi
      rw [if_pos ⟨rfl, rfl⟩, if_pos ⟨rfl, by omega, by omega⟩, Nat.add_sub_cancel_left]
    · rw [if_neg (fun e => hi e.2)]
      by_cases hq : d ≤ i ∧ i < d + L
      · rw [if_pos ⟨rfl, hq⟩, if_pos ⟨rfl, by omega, by omega⟩]
      · rw [if_neg (fun e => hq e.2), if_neg (fun e => hq (by omega))]
  · rw [if_neg (fun e => hb e.1), if_neg (fun e => hb e.1), if_neg (fun e => hb e.1)]
theorem cpM_na {m : Me} {a0 p a2 d L b i : Nat} (h : b ≠ a2) : (cpM m a0 p a2 d L).1 b i = m.1 b i := if_neg (fun e => h e.1)
theorem cpM_in {m : Me} {a0 p a2 d L i : Nat} (h : i < L) : (cpM m a0 p a2 d L).1 a2 (d + i) = m.1 a0 (p + i) := by
  rw [cpM_1, if_pos ⟨rfl, by omega, by omega⟩, Nat.add_sub_cancel_left]
theorem cpM_out {m : Me} {a0 p a2 d L i : Nat} (h : i < d ∨ d + L ≤ i) : (cpM m a0 p a2 d L).1 a2 i = m.1 a2 i := if_neg (by omega)
theorem cq3 {m : Me} {a0 p a2 d L : Nat} (h : a0 ≠ a2) (h0 : p + L ≤ ln a0) (h1 : d + L ≤ ln a2) (hb : p + L < 2000 ∧ d + L < 2000) : ∀ j q n, q + j = L → j < n → fX11_copy_3 n a0 (nI p) a2 (nI d) (nI L) (nI q) (cpM m a0 p a2 d q) = some (cpM m a0 p a2 d L) := by
  intro j
  induction j with
  | zero =>
    intro q n hq hn
    obtain ⟨n, rfl⟩ : ∃ n', n = n' + 1 := ⟨n - 1, by omega⟩
    rw [fX11_copy_3]
    have : q = L := by omega
    subst this
    simp (disch := omega) only [cl2_so, cl1_so, ck_tr, zl_0, zl_1, zl_2, zl_3, zl_4, zl_5, zl_6, zl_7, zl_8, zl_9, zl_10, zl_11, zl_12, zl_15, zl_16, zl_20, zl_24, zl_25, zl_30, zl_31, zl_32, zl_33, zl_44, zl_48, zl_50, zl_57, zl_59, zl_60, zl_61, zl_62, zl_63, zl_64, zl_68, zl_97, zl_99, zl_100, zl_104, zl_108, zl_114, zl_120, zl_122, zl_126, zl_132, zl_180, zl_181, zl_186, zl_255, zl_900, zl_930, zl_1000, zl_1000000, nI_add, pk_mul, zs_sub, zs_lt, zs_le, zs_eq, zs_inb, zs_cl, zm_eq, zm_eq2, zm_lt, zm_le, mz_lt, mz_le, mm_eq, zs_bit, zs_or1, zs_div, zs_rem, ck_pos, if_pos, if_neg, true_or, or_true, true_and, and_true, false_or, or_false, false_and, and_false, not_true, not_false_iff, if_true, if_false, eq_self, Bool.false_eq_true, cl2_id, Bool.not_true, Bool.not_false]
  | succ j ih =>
    intro q n hq hn
    obtain ⟨n, rfl⟩ : ∃ n', n = n' + 1 := ⟨n - 1, by omega⟩
    rw [fX11_copy_3]
    simp (disch := omega) only [cl2_so, cl1_so, ck_tr, zl_0, zl_1, zl_2, zl_3, zl_4, zl_5, zl_6, zl_7, zl_8, zl_9, zl_10, zl_11, zl_12, zl_15, zl_16, zl_20, zl_24, zl_25, zl_30, zl_31, zl_32, zl_33, zl_44, zl_48, zl_50, zl_57, zl_59, zl_60, zl_61, zl_62, zl_63, zl_64, zl_68, zl_97, zl_99, zl_100, zl_104, zl_108, zl_114, zl_120, zl_122, zl_126, zl_132, zl_180, zl_181, zl_186, zl_255, zl_900, zl_930, zl_1000, zl_1000000, nI_add, pk_mul, zs_sub, zs_lt, zs_le, zs_eq, zs_inb, zs_cl, zm_eq, zm_eq2, zm_lt, zm_le, mz_lt, mz_le, mm_eq, zs_bit, zs_or1, zs_div, zs_rem, ck_pos, if_pos, if_neg, true_or, or_true, true_and, and_true, false_or, or_false, false_and, and_false, not_true, not_false_iff, if_true, if_false, eq_self, Bool.false_eq_true, cl2_id, Bool.not_true, Bool.not_false]
    rw [cpM_s h]
    exact ih (q + 1) n (by omega) (by omega)
theorem copy_e {m : Me} {a0 p a2 d L : Nat} (h : a0 ≠ a2) (h0 : p + L ≤ ln a0) (h1 : d + L ≤ ln a2) (hb : p + L < 2000 ∧ d + L < 2000) : fX11_copy a0 (nI p) a2 (nI d) (nI L) m = some (cpM m a0 p a2 d L) := by
  have := cq3 (m := m) h h0 h1 hb L 0 FU (by omega) (FU_pos (by omega))
  rw [cpM_0] at this
  exact this
theorem mpl_none {r s : Nat → Nat} {i : Nat} {G : (Nat → Option Nat) → Option Nat} (hG : ∀ N, G N = none) : ∀ j p N, mpl r s i G p j N = none
  | 0, p, N => rfl
  | j + 1, p, N => by
    rw [mpl, mpl_none hG j (p + 1) N]
    cases hc : mclm r s i p 0 (r (64 + i)) N 0 with
    | none => rfl
    | some q =>
      show omin (oad q.2 (G q.1)) none = none
      rw [hG]
      rfl
theorem mbl_bare {r s : Nat → Nat} : ∀ (is : List Nat) N, (∃ i, i ∈ is ∧ z_bare (z_wish r i) = true) → mbl r s is N = none
  | [], N, h => by obtain ⟨i, hi, -⟩ := h; cases hi
  | a :: is, N, h => by
    rw [mbl]
    cases hb : z_bare (z_wish r a)
    · have : ∃ i, i ∈ is ∧ z_bare (z_wish r i) = true := by
        obtain ⟨i, hi, hz⟩ := h
        rcases List.mem_cons.mp hi with e | e
        · rw [e, hb] at hz; cases hz
        · exact ⟨i, e, hz⟩
      rw [if_neg (by decide)]
      exact mpl_none (fun N => mbl_bare is N this) _ _ _
    · rfl
/-! sides apart -/
def oplus : Option Nat → Option Nat → Option Nat
  | some x, some y => some (x + y)
  | _, _ => none
theorem oplus_n (a : Option Nat) : oplus a none = none := by cases a <;> rfl
theorem oplus_omin (a b c : Option Nat) : omin (oplus a c) (oplus b c) = oplus (omin a b) c := by
  cases c with
  | none => rw [oplus_n, oplus_n, oplus_n]; rfl
  | some z =>
    cases a with
    | none => rfl
    | some x =>
      cases b with
      | none => rfl
      | some y =>
        show some _ = some _
        congr 1
        repeat' split
        all_goals omega
theorem oplus_omin2 (a b c : Option Nat) : omin (oplus c a) (oplus c b) = oplus c (omin a b) := by
  cases c with
  | none => rfl
  | some z =>
    cases a with
    | none => rfl
    | some x =>
      cases b with
      | none => rfl
      | some y =>
        show some _ = some _
        congr 1
        repeat' split
        all_goals omega
theorem oad_oplus (n : Nat) (a c : Option Nat) : oad n (oplus a c) = oplus (oad n a) c := by
  cases a with
  | none => rfl
  | some x =>
    cases c with
    | none => rfl
    | some y => show some _ = some _; congr 1; omega
theorem oad_oplus2 (n : Nat) (a c : Option Nat) : oad n (oplus a c) = oplus a (oad n c) := by
  cases a with
  | none => rfl
  | some x =>
    cases c with
    | none => rfl
    | some y => show some _ = some _; congr 1; omega
/-- alike on a side -/
def onS (e : Nat) (N N' : Nat → Option Nat) : Prop := ∀ x, x < 30 → N (30 * e + x) = N' (30 * e + x)
section MA2
variable {m : Me} {H : Bool} {t : Nat} {r s : Nat → Nat} {x1 x2 x3 x4 : Int32}
theorem mcl_s (hO : KO r s) {i p k : Nat} (hi : i < r 6) (h : p + k < (zWs r s i).length) : ∃ g, g < 30 ∧ mcl r s i p k = 30 * r (100 + i) + g := ⟨_, (zWs_ok hO hi).2 _ h, rfl⟩
/-- a claim on the other side changes nothing on this one; on its own side it asks for that side alone -/
theorem mclm_s (hO : KO r s) {i p : Nat} (hi : i < r 6) (hp : p + r (64 + i) ≤ (zWs r s i).length) : ∀ j k N M n, k + j = r (64 + i) → onS (r (100 + i)) N M → (∀ N' n', mclm r s i p k j N n = some (N', n') → ∃ M', mclm r s i p k j M n = some (M', n') ∧ onS (r (100 + i)) N' M' ∧ ∀ e, e ≠ r (100 + i) → onS e N' N) ∧ (mclm r s i p k j N n = none → mclm r s i p k j M n = none)
  | 0, k, N, M, n, hk, h => by
    refine ⟨fun N' n' e => ?_, fun e => (by cases e)⟩
    have := Prod.mk.inj (Option.some.inj e)
    obtain ⟨rfl, rfl⟩ := this
    exact ⟨M, rfl, h, fun _ _ _ _ => rfl⟩
  | j + 1, k, N, M, n, hk, h => by
    obtain ⟨g, hg, ec⟩ := mcl_s hO hi (p := p) (k := k) (by omega)
    have eN : N (mcl r s i p k) = M (mcl r s i p k) := by rw [ec]; exact h g hg
    rw [mclm, mclm, ← eN]
    cases hN : N (mcl r s i p k) with
    | none =>
      simp only
      have ih := mclm_s hO hi hp j (k + 1) (updU N (mcl r s i p k) (mlt r i k)) (updU M (mcl r s i p k) (mlt r i k)) (n + if s (mcl r s i p k) = mlt r i k then 0 else 1) (by omega) (fun x hx => by
        unfold updU
        split
        · rfl
        · exact h x hx)
      refine ⟨fun N' n' e => ?_, ih.2⟩
      obtain ⟨M', q1, q2, q3⟩ := ih.1 N' n' e
      refine ⟨M', q1, q2, fun e he x hx => ?_⟩
      rw [q3 e he x hx]
      unfold updU
      rw [if_neg (by omega)]
    | some y =>
      simp only
      by_cases hy : y = mlt r i k
      · rw [if_pos hy, if_pos hy]
        exact mclm_s hO hi hp j (k + 1) N M n (by omega) h
      · rw [if_neg hy, if_neg hy]
        exact ⟨fun N' n' e => (by cases e), fun _ => rfl⟩
theorem mpl_s (hO : KO r s) {i : Nat} (hi : i < r 6) {G : (Nat → Option Nat) → Option Nat} (hG : ∀ N M, onS (r (100 + i)) N M → G N = G M) : ∀ j p N M, p + j = npl r s i → onS (r (100 + i)) N M → mpl r s i G p j N = mpl r s i G p j M
  | 0, p, N, M, _, _ => rfl
  | j + 1, p, N, M, hp, h => by
    rw [mpl, mpl, mpl_s hO hi hG j (p + 1) N M (by omega) h]
    have hp' : p + r (64 + i) ≤ (zWs r s i).length := by unfold npl at hp; omega
    have q := mclm_s hO hi hp' (r (64 + i)) 0 N M 0 (by omega) h
    cases hc : mclm r s i p 0 (r (64 + i)) N 0 with
    | none => rw [q.2 hc]
    | some z =>
      obtain ⟨M', q1, q2, -⟩ := q.1 z.1 z.2 hc
      rw [q1]
      show omin (oad z.2 (G z.1)) _ = omin (oad z.2 (G M')) _
      rw [hG _ _ q2]
theorem mbl_s (hO : KO r s) {e : Nat} : ∀ (is : List Nat) N M, (∀ i ∈ is, i < r 6 ∧ r (100 + i) = e) → onS e N M → mbl r s is N = mbl r s is M
  | [], N, M, _, _ => rfl
  | i :: is, N, M, hi, h => by
    rw [mbl, mbl]
    obtain ⟨h1, h2⟩ := hi i List.mem_cons_self
    subst h2
    rw [mpl_s hO h1 (fun N M q => mbl_s hO is N M (fun a ha => hi a (List.mem_cons_of_mem _ ha)) q) _ _ N M (by omega) h]
def sdL (r : Nat → Nat) (e : Nat) (is : List Nat) : List Nat := is.filter (fun i => decide (r (100 + i) = e))
theorem sdL_in {e : Nat} {is : List Nat} (h : ∀ i ∈ is, i < r 6) : ∀ i ∈ sdL r e is, i < r 6 ∧ r (100 + i) = e := by
  intro i hi
  obtain ⟨q1, q2⟩ := List.mem_filter.mp hi
  exact ⟨h i q1, of_decide_eq_true q2⟩
theorem mpl_f (hO : KO r s) {i : Nat} (hi : i < r 6) {G G' : (Nat → Option Nat) → Option Nat} {N : Nat → Option Nat} (h : ∀ N', (∀ e, e ≠ r (100 + i) → onS e N' N) → G N' = G' N') : ∀ j p, p + j = npl r s i → mpl r s i G p j N = mpl r s i G' p j N
  | 0, p, _ => rfl
  | j + 1, p, hp => by
    have hp' : p + r (64 + i) ≤ (zWs r s i).length := by unfold npl at hp; omega
    rw [mpl, mpl, mpl_f hO hi h j (p + 1) (by omega)]
    cases hc : mclm r s i p 0 (r (64 + i)) N 0 with
    | none => rfl
    | some z =>
      obtain ⟨M', q1, q2, q3⟩ := (mclm_s hO hi hp' (r (64 + i)) 0 N N 0 (by omega) (fun _ _ => rfl)).1 z.1 z.2 hc
      show omin (oad z.2 (G z.1)) _ = omin (oad z.2 (G' z.1)) _
      rw [h z.1 q3]
theorem mpl_o1 {i : Nat} {G : (Nat → Option Nat) → Option Nat} {c : Option Nat} {N : Nat → Option Nat} : ∀ j p, mpl r s i (fun N' => oplus (G N') c) p j N = oplus (mpl r s i G p j N) c
  | 0, p => rfl
  | j + 1, p => by
    rw [mpl, mpl, mpl_o1 j (p + 1), ← oplus_omin]
    cases hc : mclm r s i p 0 (r (64 + i)) N 0 with
    | none => rfl
    | some z =>
      show omin (oad z.2 (oplus (G z.1) c)) _ = omin (oplus (oad z.2 (G z.1)) c) _
      rw [oad_oplus]
theorem mpl_o2 {i : Nat} {G : (Nat → Option Nat) → Option Nat} {c : Option Nat} {N : Nat → Option Nat} : ∀ j p, mpl r s i (fun N' => oplus c (G N')) p j N = oplus c (mpl r s i G p j N)
  | 0, p => by rw [mpl, mpl, oplus_n]
  | j + 1, p => by
    rw [mpl, mpl, mpl_o2 j (p + 1), ← oplus_omin2]
    cases hc : mclm r s i p 0 (r (64 + i)) N 0 with
    | none => rw [show mpv (fun N' => oplus c (G N')) none = none from rfl, show mpv G none = none from rfl, oplus_n]
    | some z =>
      show omin (oad z.2 (oplus c (G z.1))) _ = omin (oplus c (oad z.2 (G z.1))) _
      rw [oad_oplus2]
theorem mbl_split (hO : KO r s) : ∀ (is : List Nat) N, (∀ i ∈ is, i < r 6) → mbl r s is N = oplus (mbl r s (sdL r 0 is) N) (mbl r s (sdL r 1 is) N)
  | [], N, _ => rfl
  | i :: is, N, hi => by
    have h1 := hi i List.mem_cons_self
    have h2 : ∀ a ∈ is, a < r 6 := fun a ha => hi a (List.mem_cons_of_mem _ ha)
    have hs := (hO.1.i h1).2.2.2.1
    have ih : ∀ N, mbl r s is N = oplus (mbl r s (sdL r 0 is) N) (mbl r s (sdL r 1 is) N) := fun N => mbl_split hO is N h2
    rw [mbl]
    by_cases e : r (100 + i) = 0
    · have e0 : sdL r 0 (i :: is) = i :: sdL r 0 is := by unfold sdL; rw [List.filter_cons, decide_eq_true e]; rfl
      have e1 : sdL r 1 (i :: is) = sdL r 1 is := by unfold sdL; rw [List.filter_cons, decide_eq_false (show ¬ r (100 + i) = 1 by omega)]; rfl
      rw [e0, e1, mbl]
      split
      · rfl
      · rw [mpl_f hO h1 (G' := fun N' => oplus (mbl r s (sdL r 0 is) N') (mbl r s (sdL r 1 is) N)) (fun N' q => by
          rw [ih N', mbl_s hO (e := 1) (sdL r 1 is) N' N (sdL_in h2) (q 1 (by omega))]) _ _ (by omega), mpl_o1]
    · have e0 : sdL r 0 (i :: is) = sdL r 0 is := by unfold sdL; rw [List.filter_cons, decide_eq_false e]; rfl
      have e1 : sdL r 1 (i :: is) = i :: sdL r 1 is := by unfold sdL; rw [List.filter_cons, decide_eq_true (show r (100 + i) = 1 by omega)]; rfl
      rw [e0, e1, mbl]
      split
      · rw [oplus_n]
      · rw [mpl_f hO h1 (G' := fun N' => oplus (mbl r s (sdL r 0 is) N) (mbl r s (sdL r 1 is) N')) (fun N' q => by
          rw [ih N', mbl_s hO (e := 0) (sdL r 0 is) N' N (sdL_in h2) (q 0 (fun z => e z.symm))]) _ _ (by omega), mpl_o2]
def n0 : Nat → Option Nat := fun _ => none
def maR (r s : Nat → Nat) : Option Nat := mbl r s (List.range' 0 (r 6)) n0
def maV : Option Nat → Int32
  | none => -nI 2
  | some x => nI x
theorem ma108 (hO : KO r s) (b : Bool) (hb : b = true → ∀ i, i < r 6 → z_bare (z_wish r i) = false) (hb2 : b = false → ∃ i, i < r 6 ∧ z_bare (z_wish r i) = true) : ∀ j k n (m : Me), KM m r s → RMs m r s → (∀ c, c < k → m.1 150 c = nI 0) → k + j = 60 → j < n → ∃ m', fX11_mendAll_108 n (nI (if b = true then 1 else 0)) (nI k) m = some (maV (maR r s), m') ∧ Ak sN m m' := by
  intro j
  induction j with
  | zero =>
    intro k n m h hM hT hk hn
    obtain ⟨n, rfl⟩ : ∃ n', n = n' + 1 := ⟨n - 1, by omega⟩
    rw [fX11_mendAll_108]
    unfold fX11_mendAll_144 fX11_mendAll_163
    have p1 : Fm m (setI m 138 31 (nI 1000000)) := (Fm.rf m).sl _
    cases b
    · have e : maR r s = none := by
        obtain ⟨i, hi, hz⟩ := hb2 rfl
        exact mbl_bare _ _ ⟨i, List.mem_range'_1.mpr ⟨by omega, by omega⟩, hz⟩
      rw [e]
      have e1 : (setI m 138 31 (nI 1000000)).1 138 31 = nI 1000000 := sI_eq _ _ _ _
      refine ⟨_, ?_, p1.1⟩
      simp (disch := omega) only [e1, cl2_so, cl1_so, ck_tr, zl_0, zl_1, zl_2, zl_3, zl_4, zl_5, zl_6, zl_7, zl_8, zl_9, zl_10, zl_11, zl_12, zl_15, zl_16, zl_20, zl_24, zl_25, zl_30, zl_31, zl_32, zl_33, zl_44, zl_48, zl_50, zl_57, zl_59, zl_60, zl_61, zl_62, zl_63, zl_64, zl_68, zl_97, zl_99, zl_100, zl_104, zl_108, zl_114, zl_120, zl_122, zl_126, zl_132, zl_180, zl_181, zl_186, zl_255, zl_900, zl_930, zl_1000, zl_1000000, nI_add, pk_mul, zs_sub, zs_lt, zs_le, zs_eq, zs_inb, zs_cl, zm_eq, zm_eq2, zm_lt, zm_le, mz_lt, mz_le, mm_eq, zs_bit, zs_or1, zs_div, zs_rem, ck_pos, if_pos, if_neg, true_or, or_true, true_and, and_true, false_or, or_false, false_and, and_false, not_true, not_false_iff, if_true, if_false, eq_self, Bool.false_eq_true, cl2_id, Bool.not_true, Bool.not_false]
      rfl
    · have h6 := hO.1.2.2.2.2.1
      obtain ⟨m2, f1, f2, f3, f4⟩ := mfG hO (hb rfl) (r 6) 0 8 0 none n0 (fun _ => 0) _ (by omega) (by omega) (h.fm p1) (hM.fm p1) (fun c hc => ⟨(sI_na (by decide)).trans (hT c (by omega)), Or.inl ⟨rfl, rfl⟩⟩) (fun c => by omega) (by omega) (fun x e => by cases e) (sI_eq _ _ _ _)
      have e : omin none (oad 0 (mbl r s (List.range' 0 (r 6)) n0)) = maR r s := by
        unfold maR
        cases mbl r s (List.range' 0 (r 6)) n0 <;> rfl
      rw [e] at f4
      have hle : ∀ x, maR r s = some x → x ≤ 32 := by
        intro x hx
        have := mbl_le hO.1 _ n0 x (fun a ha => by have := List.mem_range'_1.mp ha; omega) hx
        rw [List.length_range'] at this
        omega
      refine ⟨m2, ?_, p1.1.tr f2.1⟩
      cases hm : maR r s with
      | none =>
        rw [hm] at f4
        have f4' : m2.1 138 31 = nI 1000000 := f4
        simp (disch := omega) only [f1, f4', cl2_so, cl1_so, ck_tr, zl_0, zl_1, zl_2, zl_3, zl_4, zl_5, zl_6, zl_7, zl_8, zl_9, zl_10, zl_11, zl_12, zl_15, zl_16, zl_20, zl_24, zl_25, zl_30, zl_31, zl_32, zl_33, zl_44, zl_48, zl_50, zl_57, zl_59, zl_60, zl_61, zl_62, zl_63, zl_64, zl_68, zl_97, zl_99, zl_100, zl_104, zl_108, zl_114, zl_120, zl_122, zl_126, zl_132, zl_180, zl_181, zl_186, zl_255, zl_900, zl_930, zl_1000, zl_1000000, nI_add, pk_mul, zs_sub, zs_lt, zs_le, zs_eq, zs_inb, zs_cl, zm_eq, zm_eq2, zm_lt, zm_le, mz_lt, mz_le, mm_eq, zs_bit, zs_or1, zs_div, zs_rem, ck_pos, if_pos, if_neg, true_or, or_true, true_and, and_true, false_or, or_false, false_and, and_false, not_true, not_false_iff, if_true, if_false, eq_self, Bool.false_eq_true, cl2_id, Bool.not_true, Bool.not_false]
        rfl
      | some x =>
        rw [hm] at f4
        have f4' : m2.1 138 31 = nI x := f4
        have := hle x hm
        simp (disch := omega) only [f1, f4', cl2_so, cl1_so, ck_tr, zl_0, zl_1, zl_2, zl_3, zl_4, zl_5, zl_6, zl_7, zl_8, zl_9, zl_10, zl_11, zl_12, zl_15, zl_16, zl_20, zl_24, zl_25, zl_30, zl_31, zl_32, zl_33, zl_44, zl_48, zl_50, zl_57, zl_59, zl_60, zl_61, zl_62, zl_63, zl_64, zl_68, zl_97, zl_99, zl_100, zl_104, zl_108, zl_114, zl_120, zl_122, zl_126, zl_132, zl_180, zl_181, zl_186, zl_255, zl_900, zl_930, zl_1000, zl_1000000, nI_add, pk_mul, zs_sub, zs_lt, zs_le, zs_eq, zs_inb, zs_cl, zm_eq, zm_eq2, zm_lt, zm_le, mz_lt, mz_le, mm_eq, zs_bit, zs_or1, zs_div, zs_rem, ck_pos, if_pos, if_neg, true_or, or_true, true_and, and_true, false_or, or_false, false_and, and_false, not_true, not_false_iff, if_true, if_false, eq_self, Bool.false_eq_true, cl2_id, Bool.not_true, Bool.not_false]
        rfl
  | succ j ih =>
    intro k n m h hM hT hk hn
    obtain ⟨n, rfl⟩ : ∃ n', n = n' + 1 := ⟨n - 1, by omega⟩
    have p1 : Fm m (setI m 150 k (nI 0)) := (Fm.rf m).s9 _
    obtain ⟨m2, f1, f2⟩ := ih (k + 1) n _ (h.fm p1) (hM.fm p1) (fun c hc => by
      by_cases q : c = k
      · subst q; exact sI_eq _ _ _ _
      · rw [sI_nj q]; exact hT c (by omega)) (by omega) (by omega)
    refine ⟨m2, ?_, p1.1.tr f2⟩
    rw [fX11_mendAll_108]
    simp (disch := omega) only [cl2_so, cl1_so, ck_tr, zl_0, zl_1, zl_2, zl_3, zl_4, zl_5, zl_6, zl_7, zl_8, zl_9, zl_10, zl_11, zl_12, zl_15, zl_16, zl_20, zl_24, zl_25, zl_30, zl_31, zl_32, zl_33, zl_44, zl_48, zl_50, zl_57, zl_59, zl_60, zl_61, zl_62, zl_63, zl_64, zl_68, zl_97, zl_99, zl_100, zl_104, zl_108, zl_114, zl_120, zl_122, zl_126, zl_132, zl_180, zl_181, zl_186, zl_255, zl_900, zl_930, zl_1000, zl_1000000, nI_add, pk_mul, zs_sub, zs_lt, zs_le, zs_eq, zs_inb, zs_cl, zm_eq, zm_eq2, zm_lt, zm_le, mz_lt, mz_le, mm_eq, zs_bit, zs_or1, zs_div, zs_rem, ck_pos, if_pos, if_neg, true_or, or_true, true_and, and_true, false_or, or_false, false_and, and_false, not_true, not_false_iff, if_true, if_false, eq_self, Bool.false_eq_true, cl2_id, Bool.not_true, Bool.not_false]
    exact f1
theorem ma21 (hO : KO r s) : ∀ j k n (b : Bool) (m : Me), KM m r s → (∀ i, i < k → m.1 152 i = nI (zWs r s i).length ∧ ∀ q, q < (zWs r s i).length → m.1 151 (30 * i + q) = nI ((zWs r s i).getD q 0)) → k + j = r 6 → j < n → ∃ m', fX11_mendAll_21 n (nI (if b = true then 1 else 0)) (nI k) m = fX11_mendAll_108 FU (nI (if (b && z_al (fun i => !z_bare (z_wish r i)) k j) = true then 1 else 0)) (nI 0) m' ∧ Ak sN m m' ∧ KM m' r s ∧ RMs m' r s := by
  have h6 := hO.1.2.2.2.2.1
  intro j
  induction j with
  | zero =>
    intro k n b m h hM hk hn
    obtain ⟨n, rfl⟩ : ∃ n', n = n' + 1 := ⟨n - 1, by omega⟩
    have e1 := h.2.1 6 (by omega)
    refine ⟨m, ?_, Ak.rf m, h, fun i hi => hM i (by omega)⟩
    rw [fX11_mendAll_21, z_al, Bool.and_true]
    simp (disch := omega) only [e1, cl2_so, cl1_so, ck_tr, zl_0, zl_1, zl_2, zl_3, zl_4, zl_5, zl_6, zl_7, zl_8, zl_9, zl_10, zl_11, zl_12, zl_15, zl_16, zl_20, zl_24, zl_25, zl_30, zl_31, zl_32, zl_33, zl_44, zl_48, zl_50, zl_57, zl_59, zl_60, zl_61, zl_62, zl_63, zl_64, zl_68, zl_97, zl_99, zl_100, zl_104, zl_108, zl_114, zl_120, zl_122, zl_126, zl_132, zl_180, zl_181, zl_186, zl_255, zl_900, zl_930, zl_1000, zl_1000000, nI_add, pk_mul, zs_sub, zs_lt, zs_le, zs_eq, zs_inb, zs_cl, zm_eq, zm_eq2, zm_lt, zm_le, mz_lt, mz_le, mm_eq, zs_bit, zs_or1, zs_div, zs_rem, ck_pos, if_pos, if_neg, true_or, or_true, true_and, and_true, false_or, or_false, false_and, and_false, not_true, not_false_iff, if_true, if_false, eq_self, Bool.false_eq_true, cl2_id, Bool.not_true, Bool.not_false]
  | succ j ih =>
    intro k n b m h hM hk hn
    obtain ⟨n, rfl⟩ : ∃ n', n = n' + 1 := ⟨n - 1, by omega⟩
    have e1 := h.2.1 6 (by omega)
    have e2 := h.2.1 (100 + k) (by omega)
    have e3 := h.2.1 (104 + k) (by omega)
    have hi : k < r 6 := by omega
    obtain ⟨-, o1, o8, oS, oO, oL⟩ := hO.1.i hi
    obtain ⟨hL, hl⟩ := zWs_ok hO hi
    have el : fX11_layNow (nI (r (100 + k))) (nI (r (104 + k))) m = some (nI (zWs r s k).length, wl m 147 0 (zWs r s k)) := h.layNow hO oS oO
    have p1 : Ak sN m (setI (wl m 147 0 (zWs r s k)) 152 k (nI (zWs r s k).length)) := (ak_146 _).set _ (sN_in (by omega) _)
    have e4 : (setI (wl m 147 0 (zWs r s k)) 152 k (nI (zWs r s k).length)).1 152 k = nI (zWs r s k).length := sI_eq _ _ _ _
    have ecp := copy_e (m := setI (wl m 147 0 (zWs r s k)) 152 k (nI (zWs r s k).length)) (a0 := 147) (p := 0) (a2 := 151) (d := 30 * k) (L := (zWs r s k).length) (by decide) (by show _ ≤ 30; omega) (by show _ ≤ 120; omega) (by omega)
    generalize hm2 : cpM (setI (wl m 147 0 (zWs r s k)) 152 k (nI (zWs r s k).length)) 147 0 151 (30 * k) (zWs r s k).length = m2 at ecp
    have p2 : Ak sN m m2 := by
      rw [← hm2]
      refine ⟨fun a j e => ?_, fun a j e => p1.2 a j e⟩
      by_cases q : a = 151
      · rw [q, sN_in (by omega)] at e; cases e
      · rw [cpM_na q]; exact p1.1 a j e
    have h2 := h.ag p2.agN
    have hM2 : ∀ i, i < k + 1 → m2.1 152 i = nI (zWs r s i).length ∧ ∀ q, q < (zWs r s i).length → m2.1 151 (30 * i + q) = nI ((zWs r s i).getD q 0) := by
      intro i hik
      rw [← hm2]
      by_cases q : i = k
      · subst q
        refine ⟨by rw [cpM_na (by decide), sI_eq], fun q hq => ?_⟩
        rw [cpM_in hq, sI_na (by decide), Nat.zero_add, wl_at hq]
      · obtain ⟨g1, g2⟩ := hM i (by omega)
        have hLi := (zWs_ok hO (i := i) (by omega)).1
        refine ⟨by rw [cpM_na (by decide), sI_nj q, wl_na (by decide)]; exact g1, fun u hu => ?_⟩
        rw [cpM_out (by omega), sI_na (by decide), wl_na (by decide)]
        exact g2 u hu
    have ew := h2.isWhole hO hi
    rw [fX11_mendAll_21, z_al]
    unfold fX11_mendAll_98 fX11_mendAll_99
    cases b
    · obtain ⟨m3, f1, f2⟩ := ih (k + 1) n false m2 h2 hM2 (by omega) (by omega)
      refine ⟨m3, ?_, p2.tr f2.1, f2.2⟩
      simp only [Bool.false_and, Bool.false_eq_true, if_false] at f1 ⊢
      simp (disch := omega) only [e1, e2, e3, el, e4, ecp, cl2_so, cl1_so, ck_tr, zl_0, zl_1, zl_2, zl_3, zl_4, zl_5, zl_6, zl_7, zl_8, zl_9, zl_10, zl_11, zl_12, zl_15, zl_16, zl_20, zl_24, zl_25, zl_30, zl_31, zl_32, zl_33, zl_44, zl_48, zl_50, zl_57, zl_59, zl_60, zl_61, zl_62, zl_63, zl_64, zl_68, zl_97, zl_99, zl_100, zl_104, zl_108, zl_114, zl_120, zl_122, zl_126, zl_132, zl_180, zl_181, zl_186, zl_255, zl_900, zl_930, zl_1000, zl_1000000, nI_add, pk_mul, zs_sub, zs_lt, zs_le, zs_eq, zs_inb, zs_cl, zm_eq, zm_eq2, zm_lt, zm_le, mz_lt, mz_le, mm_eq, zs_bit, zs_or1, zs_div, zs_rem, ck_pos, if_pos, if_neg, true_or, or_true, true_and, and_true, false_or, or_false, false_and, and_false, not_true, not_false_iff, if_true, if_false, eq_self, Bool.false_eq_true, cl2_id, Bool.not_true, Bool.not_false]
      exact f1
    · cases hz : z_bare (z_wish r k)
      · rw [hz] at ew
        obtain ⟨m3, f1, f2⟩ := ih (k + 1) n true m2 h2 hM2 (by omega) (by omega)
        refine ⟨m3, ?_, p2.tr f2.1, f2.2⟩
        simp only [Bool.true_and, Bool.not_false, if_true] at f1 ⊢
        simp (disch := omega) only [e1, e2, e3, el, e4, ecp, ew, cl2_so, cl1_so, ck_tr, zl_0, zl_1, zl_2, zl_3, zl_4, zl_5, zl_6, zl_7, zl_8, zl_9, zl_10, zl_11, zl_12, zl_15, zl_16, zl_20, zl_24, zl_25, zl_30, zl_31, zl_32, zl_33, zl_44, zl_48, zl_50, zl_57, zl_59, zl_60, zl_61, zl_62, zl_63, zl_64, zl_68, zl_97, zl_99, zl_100, zl_104, zl_108, zl_114, zl_120, zl_122, zl_126, zl_132, zl_180, zl_181, zl_186, zl_255, zl_900, zl_930, zl_1000, zl_1000000, nI_add, pk_mul, zs_sub, zs_lt, zs_le, zs_eq, zs_inb, zs_cl, zm_eq, zm_eq2, zm_lt, zm_le, mz_lt, mz_le, mm_eq, zs_bit, zs_or1, zs_div, zs_rem, ck_pos, if_pos, if_neg, true_or, or_true, true_and, and_true, false_or, or_false, false_and, and_false, not_true, not_false_iff, if_true, if_false, eq_self, Bool.false_eq_true, cl2_id, Bool.not_true, Bool.not_false]
        exact f1
      · rw [hz] at ew
        obtain ⟨m3, f1, f2⟩ := ih (k + 1) n false m2 h2 hM2 (by omega) (by omega)
        refine ⟨m3, ?_, p2.tr f2.1, f2.2⟩
        simp only [Bool.true_and, Bool.false_and, Bool.not_true, Bool.false_eq_true, if_false, if_true] at f1 ⊢
        simp (disch := omega) only [e1, e2, e3, el, e4, ecp, ew, cl2_so, cl1_so, ck_tr, zl_0, zl_1, zl_2, zl_3, zl_4, zl_5, zl_6, zl_7, zl_8, zl_9, zl_10, zl_11, zl_12, zl_15, zl_16, zl_20, zl_24, zl_25, zl_30, zl_31, zl_32, zl_33, zl_44, zl_48, zl_50, zl_57, zl_59, zl_60, zl_61, zl_62, zl_63, zl_64, zl_68, zl_97, zl_99, zl_100, zl_104, zl_108, zl_114, zl_120, zl_122, zl_126, zl_132, zl_180, zl_181, zl_186, zl_255, zl_900, zl_930, zl_1000, zl_1000000, nI_add, pk_mul, zs_sub, zs_lt, zs_le, zs_eq, zs_inb, zs_cl, zm_eq, zm_eq2, zm_lt, zm_le, mz_lt, mz_le, mm_eq, zs_bit, zs_or1, zs_div, zs_rem, ck_pos, if_pos, if_neg, true_or, or_true, true_and, and_true, false_or, or_false, false_and, and_false, not_true, not_false_iff, if_true, if_false, eq_self, Bool.false_eq_true, cl2_id, Bool.not_true, Bool.not_false]
        exact f1
theorem KM.mendAll (h : KM m r s) (hO : KO r s) : ∃ m', fX11_mendAll_21 FU (nI 1) (nI 0) m = some (maV (maR r s), m') ∧ Ak sN m m' := by
  have h6 := hO.1.2.2.2.2.1
  obtain ⟨m1, f1, f2, f3, f4⟩ := ma21 (s := s) hO (r 6) 0 FU true m h (fun i hi => by omega) (by omega) (FU_pos (by omega))
  obtain ⟨m2, g1, g2⟩ := ma108 (s := s) hO (z_al (fun i => !z_bare (z_wish r i)) 0 (r 6)) (fun e i hi => by
    rw [z_al_iff] at e
    have := e i (by omega) (by omega)
    simpa using this) (fun e => by
    apply Classical.byContradiction
    intro hn
    have : z_al (fun i => !z_bare (z_wish r i)) 0 (r 6) = true := by
      rw [z_al_iff]
      intro i _ hi
      cases hz : z_bare (z_wish r i)
      · rfl
      · exact absurd ⟨i, by omega, hz⟩ hn
    rw [e] at this
    cases this) 60 0 FU m1 f3 f4 (fun c hc => by omega) (by omega) (FU_pos (by omega))
  rw [Bool.true_and] at f1
  exact ⟨m2, f1.trans g1, f2.tr g2⟩
end MA2
