/-! mendAll: what is asked for; the reference's search -/
def omin : Option Nat → Option Nat → Option Nat
  | none, b => b
  | some x, none => some x
  | some x, some y => some (if y < x then y else x)
def oad (c : Nat) : Option Nat → Option Nat
  | none => none
  | some x => some (x + c)
theorem omin_n (a : Option Nat) : omin a none = a := by cases a <;> rfl
theorem omin_assoc (a b c : Option Nat) : omin (omin a b) c = omin a (omin b c) := by
  cases a with
  | none => rfl
  | some x =>
    cases b with
    | none => cases c <;> rfl
    | some y =>
      cases c with
      | none => rfl
      | some z =>
        show some _ = some _
        congr 1
        repeat' split
        all_goals omega
theorem oad_omin (c : Nat) (a b : Option Nat) : oad c (omin a b) = omin (oad c a) (oad c b) := by
  cases a with
  | none => rfl
  | some x =>
    cases b with
    | none => rfl
    | some y =>
      show some _ = some _
      congr 1
      repeat' split
      all_goals omega
theorem oad_oad (c d : Nat) (a : Option Nat) : oad c (oad d a) = oad (c + d) a := by
  cases a with
  | none => rfl
  | some x => show some _ = some _; congr 1; omega
theorem omin_ge {x c : Nat} (h : x ≤ c) (o : Option Nat) : omin (some x) (oad c o) = some x := by
  cases o with
  | none => rfl
  | some y => show some _ = some _; congr 1; split <;> omega
theorem omin_le {B : Nat} {a b : Option Nat} (ha : ∀ x, a = some x → x ≤ B) (hb : ∀ x, b = some x → x ≤ B) : ∀ x, omin a b = some x → x ≤ B := by
  intro x h
  cases a with
  | none => exact hb x h
  | some y =>
    have := ha y rfl
    cases b with
    | none => exact ha x h
    | some z =>
      have := hb z rfl
      have := Option.some.inj h
      split at this <;> omega
def zWs (r s : Nat → Nat) (i : Nat) : List Nat := z_show r (r (100 + i)) (r (104 + i)) (s 60)
def mcl (r s : Nat → Nat) (i p k : Nat) : Nat := 30 * r (100 + i) + (zWs r s i).getD (p + k) 0
def mlt (r : Nat → Nat) (i k : Nat) : Nat := r (68 + 8 * i + k)
def mclm (r s : Nat → Nat) (i p : Nat) : Nat → Nat → (Nat → Option Nat) → Nat → Option ((Nat → Option Nat) × Nat)
  | _, 0, N, n => some (N, n)
  | k, j + 1, N, n => match N (mcl r s i p k) with
    | none => mclm r s i p (k + 1) j (updU N (mcl r s i p k) (mlt r i k)) (n + if s (mcl r s i p k) = mlt r i k then 0 else 1)
    | some x => if x = mlt r i k then mclm r s i p (k + 1) j N n else none
def mpv (G : (Nat → Option Nat) → Option Nat) : Option ((Nat → Option Nat) × Nat) → Option Nat
  | none => none
  | some q => oad q.2 (G q.1)
def mpl (r s : Nat → Nat) (i : Nat) (G : (Nat → Option Nat) → Option Nat) : Nat → Nat → (Nat → Option Nat) → Option Nat
  | _, 0, _ => none
  | p, j + 1, N => omin (mpv G (mclm r s i p 0 (r (64 + i)) N 0)) (mpl r s i G (p + 1) j N)
def npl (r s : Nat → Nat) (i : Nat) : Nat := (zWs r s i).length + 1 - r (64 + i)
def mbl (r s : Nat → Nat) : List Nat → (Nat → Option Nat) → Option Nat
  | [], _ => some 0
  | i :: is, N => if z_bare (z_wish r i) then none else mpl r s i (mbl r s is) 0 (npl r s i) N
theorem mclm_n {r s : Nat → Nat} {i p : Nat} : ∀ j k N n N' n', mclm r s i p k j N n = some (N', n') → n ≤ n' ∧ n' ≤ n + j
  | 0, k, N, n, N', n', h => by
    rw [mclm] at h
    have := Prod.mk.inj (Option.some.inj h)
    omega
  | j + 1, k, N, n, N', n', h => by
    rw [mclm] at h
    split at h
    · have := mclm_n j _ _ _ N' n' h
      split at this <;> omega
    · split at h
      · have := mclm_n j _ _ _ N' n' h
        omega
      · cases h
theorem mpl_le {r s : Nat → Nat} {i B : Nat} {G : (Nat → Option Nat) → Option Nat} (hG : ∀ N x, G N = some x → x ≤ B) : ∀ j p N x, mpl r s i G p j N = some x → x ≤ B + r (64 + i)
  | 0, p, N, x, h => by cases h
  | j + 1, p, N, x, h => by
    rw [mpl] at h
    refine omin_le (B := B + r (64 + i)) ?_ (mpl_le hG j (p + 1) N) x h
    intro y hy
    cases hc : mclm r s i p 0 (r (64 + i)) N 0 with
    | none => rw [hc] at hy; cases hy
    | some q =>
      obtain ⟨N', n'⟩ := q
      rw [hc] at hy
      have h1 := mclm_n _ _ _ _ _ _ hc
      have hy' : oad n' (G N') = some y := hy
      cases hg : G N' with
      | none => rw [hg] at hy'; cases hy'
      | some z =>
        rw [hg] at hy'
        have h2 := hG N' z hg
        have h3 : z + n' = y := Option.some.inj hy'
        omega
section MA1
variable {m : Me} {H : Bool} {t : Nat} {r s : Nat → Nat} {x1 x2 x3 x4 : Int32}
theorem OKr.i (h : OKr r) {i : Nat} (hi : i < r 6) : r 6 ≤ 4 ∧ 1 ≤ r (64 + i) ∧ r (64 + i) ≤ 8 ∧ r (100 + i) ≤ 1 ∧ r (104 + i) ≤ z_mo r ∧ ∀ k, k < r (64 + i) → r (68 + 8 * i + k) ≤ 25 := by
  obtain ⟨a, b, c, d, e⟩ := h.2.2.2.2.2.2.2.2.1 i hi
  exact ⟨h.2.2.2.2.1, a, b, c, d, e⟩
theorem mbl_le (hO : OKr r) : ∀ (is : List Nat) N x, (∀ i ∈ is, i < r 6) → mbl r s is N = some x → x ≤ 8 * is.length
  | [], N, x, _, h => by
    rw [mbl] at h
    have := Option.some.inj h
    omega
  | i :: is, N, x, hi, h => by
    rw [mbl] at h
    split at h
    · cases h
    · have h8 := (hO.i (hi i List.mem_cons_self)).2.2.1
      have := mpl_le (B := 8 * is.length) (fun N x h => mbl_le hO is N x (fun a ha => hi a (List.mem_cons_of_mem _ ha)) h) _ _ _ _ h
      rw [List.length_cons]
      omega
theorem zWs_ok (hO : KO r s) {i : Nat} (hi : i < r 6) : (zWs r s i).length ≤ 30 ∧ ∀ k, k < (zWs r s i).length → (zWs r s i).getD k 0 < 30 := by
  obtain ⟨-, -, -, -, o2, -⟩ := hO.1.i hi
  exact ⟨z_show_len hO.1.1 o2, fun k hk => z_show_lt hO.1.1 o2 _ (getD_mem0 hk)⟩
theorem mcl_lt (hO : KO r s) {i p k : Nat} (hi : i < r 6) (h : p + k < (zWs r s i).length) : mcl r s i p k < 60 := by
  have := (zWs_ok hO hi).2 _ h
  have := (hO.1.i hi).2.2.2.1
  unfold mcl
  omega
def RMs (m : Me) (r s : Nat → Nat) : Prop := ∀ i, i < r 6 → m.1 152 i = nI (zWs r s i).length ∧ ∀ k, k < (zWs r s i).length → m.1 151 (30 * i + k) = nI ((zWs r s i).getD k 0)
def RT (m : Me) (N : Nat → Option Nat) (T : Nat → Nat) : Prop := ∀ c, c < 60 → m.1 150 c = nI (T c) ∧ ((T c = 0 ∧ N c = none) ∨ (1 ≤ T c ∧ ∃ l, l ≤ 25 ∧ N c = some l ∧ m.1 149 c = nI l))
def gcl (r s : Nat → Nat) (i p x q : Nat) : Bool := decide (mcl r s i p q = x)
def Fm (m m' : Me) : Prop := Ak sN m m' ∧ ∀ b k, b ≠ 149 → b ≠ 150 → ¬ (b = 138 ∧ k = 31) → m'.1 b k = m.1 b k
theorem Fm.rf (m : Me) : Fm m m := ⟨Ak.rf m, fun _ _ _ _ _ => rfl⟩
theorem Fm.tr {m m' m'' : Me} (h : Fm m m') (h' : Fm m' m'') : Fm m m'' := ⟨h.1.tr h'.1, fun b k a c d => (h'.2 b k a c d).trans (h.2 b k a c d)⟩
theorem Fm.s8 {m m' : Me} (h : Fm m m') {j : Nat} (x : Int32) : Fm m (setI m' 149 j x) := ⟨h.1.set x (sN_in (by omega) j), fun b k a c d => (sI_na a).trans (h.2 b k a c d)⟩
theorem Fm.s9 {m m' : Me} (h : Fm m m') {j : Nat} (x : Int32) : Fm m (setI m' 150 j x) := ⟨h.1.set x (sN_in (by omega) j), fun b k a c d => (sI_na c).trans (h.2 b k a c d)⟩
theorem Fm.sl {m m' : Me} (h : Fm m m') (x : Int32) : Fm m (setI m' 138 31 x) := ⟨h.1.set x (by decide), fun b k a c d => (if_neg d).trans (h.2 b k a c d)⟩
theorem KM.fm {m' : Me} (h : KM m r s) (hF : Fm m m') : KM m' r s := h.ag hF.1.agN
theorem RMs.fm {m' : Me} (h : RMs m r s) (hF : Fm m m') : RMs m' r s := fun i hi => ⟨(hF.2 _ _ (by decide) (by decide) (by omega)).trans (h i hi).1, fun k hk => (hF.2 _ _ (by decide) (by decide) (by omega)).trans ((h i hi).2 k hk)⟩
theorem pu57 (hO : KO r s) {i p : Nat} (hi : i < r 6) (hp : p + r (64 + i) ≤ (zWs r s i).length) {rec : Int32 → Int32 → Me → Option Me} {k28 : Int32 → Int32 → Int32 → Me → Option Me} {T0 : Nat → Nat} {N0 : Nat → Option Nat} (hT0 : ∀ c, T0 c ≤ 40) : ∀ j k n nn N (m : Me), KM m r s → RMs m r s → RT m N (fun x => T0 x + z_ct (gcl r s i p x) 0 k) → (∀ c, 1 ≤ T0 c → N c = N0 c) → k + j = r (64 + i) → nn ≤ k → j + 1 < n →
    ∃ m' kk nn' N' b, fX11_mendFrom_57 rec n k28 (nI i) x2 (nI p) (nI nn) (nI k) (nI 1) m = fX11_mendFrom_217 rec k28 (nI i) x2 (nI p) (nI nn') (nI kk) (nI (if b = true then 1 else 0)) m' ∧ Fm m m' ∧ m'.1 138 31 = m.1 138 31 ∧ RT m' N' (fun x => T0 x + z_ct (gcl r s i p x) 0 kk) ∧ (∀ c, 1 ≤ T0 c → N' c = N0 c) ∧ kk ≤ r (64 + i) ∧ nn' ≤ kk ∧ mclm r s i p k j N nn = (if b = true then some (N', nn') else none) := by
  obtain ⟨h6, o1, o8, oS, oO, oL⟩ := hO.1.i hi
  obtain ⟨hL, hl⟩ := zWs_ok hO hi
  intro j
  induction j with
  | zero =>
    intro k n nn N m h hM hR hN hk hnn hn
    obtain ⟨n, rfl⟩ : ∃ n', n = n' + 1 := ⟨n - 1, by omega⟩
    have e1 := h.2.1 (64 + i) (by omega)
    refine ⟨m, k, nn, N, true, ?_, Fm.rf m, rfl, hR, hN, by omega, hnn, rfl⟩
    rw [fX11_mendFrom_57]
    simp (disch := omega) only [e1, cl2_so, cl1_so, ck_tr, zl_0, zl_1, zl_2, zl_3, zl_4, zl_5, zl_6, zl_7, zl_8, zl_9, zl_10, zl_11, zl_12, zl_15, zl_16, zl_20, zl_24, zl_25, zl_30, zl_31, zl_32, zl_33, zl_44, zl_48, zl_50, zl_57, zl_59, zl_60, zl_61, zl_62, zl_63, zl_64, zl_68, zl_97, zl_99, zl_100, zl_104, zl_108, zl_114, zl_120, zl_122, zl_126, zl_132, zl_180, zl_181, zl_186, zl_255, zl_900, zl_930, zl_1000, zl_1000000, nI_add, pk_mul, zs_sub, zs_lt, zs_le, zs_eq, zs_inb, zs_cl, zm_eq, zm_eq2, zm_lt, zm_le, mz_lt, mz_le, mm_eq, zs_bit, zs_or1, zs_div, zs_rem, ck_pos, if_pos, if_neg, true_or, or_true, true_and, and_true, false_or, or_false, false_and, and_false, not_true, not_false_iff, if_true, if_false, eq_self, Bool.false_eq_true, cl2_id, Bool.not_true, Bool.not_false]
  | succ j ih =>
    intro k n nn N m h hM hR hN hk hnn hn
    obtain ⟨n, rfl⟩ : ∃ n', n = n' + 1 := ⟨n - 1, by omega⟩
    have e1 := h.2.1 (64 + i) (by omega)
    have e2 := h.2.1 (100 + i) (by omega)
    have e3 : m.1 141 (68 + 8 * i + k) = nI (mlt r i k) := h.2.1 (68 + 8 * i + k) (by omega)
    have bl : mlt r i k ≤ 25 := oL k (by omega)
    have e4 := (hM i hi).2 (p + k) (by omega)
    rw [← Nat.add_assoc] at e4
    have hlk := hl (p + k) (by omega)
    have hc60 := mcl_lt hO hi (p := p) (k := k) (by omega)
    have ecl : mcl r s i p k = 30 * r (100 + i) + (zWs r s i).getD (p + k) 0 := rfl
    generalize hgc : (zWs r s i).getD (p + k) 0 = g at e4 hlk ecl
    obtain ⟨t1, t2⟩ := hR (mcl r s i p k) hc60
    dsimp only at t1 t2
    have e5 : m.1 143 (mcl r s i p k) = nI (s (mcl r s i p k)) := h.2.2 _ (by omega)
    have b5 := hO.2.1 _ hc60
    have hct := z_ct_le (gcl r s i p (mcl r s i p k)) k 0
    have hT0c := hT0 (mcl r s i p k)
    have hct1 : ∀ x, z_ct (gcl r s i p x) 0 (k + 1) = z_ct (gcl r s i p x) 0 k + if mcl r s i p k = x then 1 else 0 := by
      intro x
      rw [z_ct_snoc]
      unfold gcl
      simp
    have go : ∀ nn1 N1, nn1 ≤ k + 1 → (∀ c, 1 ≤ T0 c → N1 c = N0 c) → N1 (mcl r s i p k) = some (mlt r i k) → (∀ c, c ≠ mcl r s i p k → N1 c = N c) → mclm r s i p k (j + 1) N nn = mclm r s i p (k + 1) j N1 nn1 →
        ∃ m' kk nn' N' b, fX11_mendFrom_57 rec n k28 (nI i) x2 (nI p) (nI nn1) (nI (k + 1)) (nI 1) (setI (setI m 149 (mcl r s i p k) (nI (mlt r i k))) 150 (mcl r s i p k) (nI (T0 (mcl r s i p k) + z_ct (gcl r s i p (mcl r s i p k)) 0 k + 1))) = fX11_mendFrom_217 rec k28 (nI i) x2 (nI p) (nI nn') (nI kk) (nI (if b = true then 1 else 0)) m' ∧ Fm m m' ∧ m'.1 138 31 = m.1 138 31 ∧ RT m' N' (fun x => T0 x + z_ct (gcl r s i p x) 0 kk) ∧ (∀ c, 1 ≤ T0 c → N' c = N0 c) ∧ kk ≤ r (64 + i) ∧ nn' ≤ kk ∧ mclm r s i p k (j + 1) N nn = (if b = true then some (N', nn') else none) := by
      intro nn1 N1 a1 a2 a3 a4 a5
      have p1 : Fm m (setI (setI m 149 (mcl r s i p k) (nI (mlt r i k))) 150 (mcl r s i p k) (nI (T0 (mcl r s i p k) + z_ct (gcl r s i p (mcl r s i p k)) 0 k + 1))) := ((Fm.rf m).s8 _).s9 _
      obtain ⟨m2, kk, nn', N', b, f1, f2, f3, f4, f5, f6, f7, f8⟩ := ih (k + 1) n nn1 N1 _ (h.fm p1) (hM.fm p1) (fun c hc => by
        by_cases q : c = mcl r s i p k
        · subst q
          dsimp only
          rw [sI_eq, hct1, if_pos rfl]
          refine ⟨by rw [Nat.add_assoc], Or.inr ⟨by omega, mlt r i k, bl, a3, ?_⟩⟩
          rw [sI_na (by decide), sI_eq]
        · dsimp only
          rw [sI_nj q, sI_na (by decide), hct1, if_neg (fun z => q z.symm), Nat.add_zero, sI_na (by decide), sI_nj q, a4 c q]
          exact hR c hc) a2 (by omega) a1 (by omega)
      refine ⟨m2, kk, nn', N', b, f1, p1.tr f2, f3.trans ?_, f4, f5, f6, f7, a5.trans f8⟩
      rw [sI_na (by decide), sI_na (by decide)]
    rw [fX11_mendFrom_57]
    unfold fX11_mendFrom_144 fX11_mendFrom_149 fX11_mendFrom_187 fX11_mendFrom_188
    rcases t2 with ⟨z1, z2⟩ | ⟨z1, l, z2, z3, z4⟩
    · have e6 : m.1 150 (mcl r s i p k) = nI 0 := by rw [t1]; exact congrArg nI z1
      have z1' : T0 (mcl r s i p k) + z_ct (gcl r s i p (mcl r s i p k)) 0 k = 0 := z1
      have hN1 : ∀ c, 1 ≤ T0 c → updU N (mcl r s i p k) (mlt r i k) c = N0 c := by
        intro c hc
        unfold updU
        rw [if_neg (fun q => by subst q; omega)]
        exact hN c hc
      by_cases hv : s (mcl r s i p k) = mlt r i k
      · obtain ⟨m2, kk, nn', N', b, f1, f2⟩ := go nn (updU N (mcl r s i p k) (mlt r i k)) (by omega) hN1 (by unfold updU; rw [if_pos rfl]) (fun c q => by unfold updU; rw [if_neg q]) (by rw [mclm, z2]; simp only [hv, if_true, Nat.add_zero])
        refine ⟨m2, kk, nn', N', b, ?_, f2⟩
        rw [z1'] at f1
        rw [ecl] at e5 e6 f1 hv hc60 b5
        have e6' : (setI m 149 (30 * r (100 + i) + g) (nI (mlt r i k))).1 150 (30 * r (100 + i) + g) = nI 0 := (sI_na (by decide)).trans e6
        simp (disch := omega) only [e1, e2, e3, e4, e5, e6, hv, e6', Nat.add_zero, cl2_so, cl1_so, ck_tr, zl_0, zl_1, zl_2, zl_3, zl_4, zl_5, zl_6, zl_7, zl_8, zl_9, zl_10, zl_11, zl_12, zl_15, zl_16, zl_20, zl_24, zl_25, zl_30, zl_31, zl_32, zl_33, zl_44, zl_48, zl_50, zl_57, zl_59, zl_60, zl_61, zl_62, zl_63, zl_64, zl_68, zl_97, zl_99, zl_100, zl_104, zl_108, zl_114, zl_120, zl_122, zl_126, zl_132, zl_180, zl_181, zl_186, zl_255, zl_900, zl_930, zl_1000, zl_1000000, nI_add, pk_mul, zs_sub, zs_lt, zs_le, zs_eq, zs_inb, zs_cl, zm_eq, zm_eq2, zm_lt, zm_le, mz_lt, mz_le, mm_eq, zs_bit, zs_or1, zs_div, zs_rem, ck_pos, if_pos, if_neg, true_or, or_true, true_and, and_true, false_or, or_false, false_and, and_false, not_true, not_false_iff, if_true, if_false, eq_self, Bool.false_eq_true, cl2_id, Bool.not_true, Bool.not_false]
        exact f1
      · obtain ⟨m2, kk, nn', N', b, f1, f2⟩ := go (nn + 1) (updU N (mcl r s i p k) (mlt r i k)) (by omega) hN1 (by unfold updU; rw [if_pos rfl]) (fun c q => by unfold updU; rw [if_neg q]) (by rw [mclm, z2]; simp only [hv, if_false])
        refine ⟨m2, kk, nn', N', b, ?_, f2⟩
        rw [z1'] at f1
        rw [ecl] at e5 e6 f1 hv hc60 b5
        have e6' : (setI m 149 (30 * r (100 + i) + g) (nI (mlt r i k))).1 150 (30 * r (100 + i) + g) = nI 0 := (sI_na (by decide)).trans e6
        simp (disch := omega) only [e1, e2, e3, e4, e5, e6, hv, e6', Nat.add_zero, cl2_so, cl1_so, ck_tr, zl_0, zl_1, zl_2, zl_3, zl_4, zl_5, zl_6, zl_7, zl_8, zl_9, zl_10, zl_11, zl_12, zl_15, zl_16, zl_20, zl_24, zl_25, zl_30, zl_31, zl_32, zl_33, zl_44, zl_48, zl_50, zl_57, zl_59, zl_60, zl_61, zl_62, zl_63, zl_64, zl_68, zl_97, zl_99, zl_100, zl_104, zl_108, zl_114, zl_120, zl_122, zl_126, zl_132, zl_180, zl_181, zl_186, zl_255, zl_900, zl_930, zl_1000, zl_1000000, nI_add, pk_mul, zs_sub, zs_lt, zs_le, zs_eq, zs_inb, zs_cl, zm_eq, zm_eq2, zm_lt, zm_le, mz_lt, mz_le, mm_eq, zs_bit, zs_or1, zs_div, zs_rem, ck_pos, if_pos, if_neg, true_or, or_true, true_and, and_true, false_or, or_false, false_and, and_false, not_true, not_false_iff, if_true, if_false, eq_self, Bool.false_eq_true, cl2_id, Bool.not_true, Bool.not_false]
        exact f1
    · generalize hτ : T0 (mcl r s i p k) + z_ct (gcl r s i p (mcl r s i p k)) 0 k = τ at *
      by_cases hv : l = mlt r i k
      · obtain ⟨m2, kk, nn', N', b, f1, f2⟩ := go nn N (by omega) hN (by rw [z3, hv]) (fun c q => rfl) (by rw [mclm, z3]; simp only [hv, if_true])
        refine ⟨m2, kk, nn', N', b, ?_, f2⟩
        rw [hv] at z4
        rw [ecl] at t1 z4 f1 hc60
        have e6' : (setI m 149 (30 * r (100 + i) + g) (nI (mlt r i k))).1 150 (30 * r (100 + i) + g) = nI τ := (sI_na (by decide)).trans t1
        have z1' : ¬ τ = 0 := by omega
        simp (disch := omega) only [e1, e2, e3, e4, t1, z4, e6', z1', Nat.add_zero, cl2_so, cl1_so, ck_tr, zl_0, zl_1, zl_2, zl_3, zl_4, zl_5, zl_6, zl_7, zl_8, zl_9, zl_10, zl_11, zl_12, zl_15, zl_16, zl_20, zl_24, zl_25, zl_30, zl_31, zl_32, zl_33, zl_44, zl_48, zl_50, zl_57, zl_59, zl_60, zl_61, zl_62, zl_63, zl_64, zl_68, zl_97, zl_99, zl_100, zl_104, zl_108, zl_114, zl_120, zl_122, zl_126, zl_132, zl_180, zl_181, zl_186, zl_255, zl_900, zl_930, zl_1000, zl_1000000, nI_add, pk_mul, zs_sub, zs_lt, zs_le, zs_eq, zs_inb, zs_cl, zm_eq, zm_eq2, zm_lt, zm_le, mz_lt, mz_le, mm_eq, zs_bit, zs_or1, zs_div, zs_rem, ck_pos, if_pos, if_neg, true_or, or_true, true_and, and_true, false_or, or_false, false_and, and_false, not_true, not_false_iff, if_true, if_false, eq_self, Bool.false_eq_true, cl2_id, Bool.not_true, Bool.not_false]
        exact f1
      · refine ⟨m, k, nn, N, false, ?_, Fm.rf m, rfl, hR, hN, by omega, hnn, by rw [mclm, z3]; simp only [hv, if_false]; rfl⟩
        obtain ⟨n, rfl⟩ : ∃ n', n = n' + 1 := ⟨n - 1, by omega⟩
        rw [ecl] at t1 z4 hc60
        have z1' : ¬ τ = 0 := by omega
        simp (disch := omega) only [e1, e2, e3, e4, t1, z4, hv, z1', cl2_so, cl1_so, ck_tr, zl_0, zl_1, zl_2, zl_3, zl_4, zl_5, zl_6, zl_7, zl_8, zl_9, zl_10, zl_11, zl_12, zl_15, zl_16, zl_20, zl_24, zl_25, zl_30, zl_31, zl_32, zl_33, zl_44, zl_48, zl_50, zl_57, zl_59, zl_60, zl_61, zl_62, zl_63, zl_64, zl_68, zl_97, zl_99, zl_100, zl_104, zl_108, zl_114, zl_120, zl_122, zl_126, zl_132, zl_180, zl_181, zl_186, zl_255, zl_900, zl_930, zl_1000, zl_1000000, nI_add, pk_mul, zs_sub, zs_lt, zs_le, zs_eq, zs_inb, zs_cl, zm_eq, zm_eq2, zm_lt, zm_le, mz_lt, mz_le, mm_eq, zs_bit, zs_or1, zs_div, zs_rem, ck_pos, if_pos, if_neg, true_or, or_true, true_and, and_true, false_or, or_false, false_and, and_false, not_true, not_false_iff, if_true, if_false, eq_self, Bool.false_eq_true, cl2_id, Bool.not_true, Bool.not_false]
        rw [fX11_mendFrom_57]
        simp (disch := omega) only [e1, cl2_so, cl1_so, ck_tr, zl_0, zl_1, zl_2, zl_3, zl_4, zl_5, zl_6, zl_7, zl_8, zl_9, zl_10, zl_11, zl_12, zl_15, zl_16, zl_20, zl_24, zl_25, zl_30, zl_31, zl_32, zl_33, zl_44, zl_48, zl_50, zl_57, zl_59, zl_60, zl_61, zl_62, zl_63, zl_64, zl_68, zl_97, zl_99, zl_100, zl_104, zl_108, zl_114, zl_120, zl_122, zl_126, zl_132, zl_180, zl_181, zl_186, zl_255, zl_900, zl_930, zl_1000, zl_1000000, nI_add, pk_mul, zs_sub, zs_lt, zs_le, zs_eq, zs_inb, zs_cl, zm_eq, zm_eq2, zm_lt, zm_le, mz_lt, mz_le, mm_eq, zs_bit, zs_or1, zs_div, zs_rem, ck_pos, if_pos, if_neg, true_or, or_true, true_and, and_true, false_or, or_false, false_and, and_false, not_true, not_false_iff, if_true, if_false, eq_self, Bool.false_eq_true, cl2_id, Bool.not_true, Bool.not_false]
theorem un236 (hO : KO r s) {i p kk : Nat} (hi : i < r 6) (hp : p + r (64 + i) ≤ (zWs r s i).length) (hkk : kk ≤ r (64 + i)) {rec : Int32 → Int32 → Me → Option Me} {k28 : Int32 → Int32 → Int32 → Me → Option Me} {T0 : Nat → Nat} (hT0 : ∀ c, T0 c ≤ 40) : ∀ j k n (m : Me), KM m r s → RMs m r s → (∀ c, c < 60 → m.1 150 c = nI (T0 c + z_ct (gcl r s i p c) k j)) → k + j = kk → j < n → ∃ m', fX11_mendFrom_236 rec n k28 (nI i) x2 (nI p) (nI kk) (nI k) m = k28 (nI i) x2 (nI (p + 1)) m' ∧ Fm m m' ∧ (∀ b k, b ≠ 150 → m'.1 b k = m.1 b k) ∧ ∀ c, c < 60 → m'.1 150 c = nI (T0 c) := by
  obtain ⟨h6, o1, o8, oS, oO, oL⟩ := hO.1.i hi
  obtain ⟨hL, hl⟩ := zWs_ok hO hi
  intro j
  induction j with
  | zero =>
    intro k n m h hM hT hk hn
    obtain ⟨n, rfl⟩ : ∃ n', n = n' + 1 := ⟨n - 1, by omega⟩
    refine ⟨m, ?_, Fm.rf m, fun _ _ _ => rfl, hT⟩
    rw [fX11_mendFrom_236]
    simp (disch := omega) only [cl2_so, cl1_so, ck_tr, zl_0, zl_1, zl_2, zl_3, zl_4, zl_5, zl_6, zl_7, zl_8, zl_9, zl_10, zl_11, zl_12, zl_15, zl_16, zl_20, zl_24, zl_25, zl_30, zl_31, zl_32, zl_33, zl_44, zl_48, zl_50, zl_57, zl_59, zl_60, zl_61, zl_62, zl_63, zl_64, zl_68, zl_97, zl_99, zl_100, zl_104, zl_108, zl_114, zl_120, zl_122, zl_126, zl_132, zl_180, zl_181, zl_186, zl_255, zl_900, zl_930, zl_1000, zl_1000000, nI_add, pk_mul, zs_sub, zs_lt, zs_le, zs_eq, zs_inb, zs_cl, zm_eq, zm_eq2, zm_lt, zm_le, mz_lt, mz_le, mm_eq, zs_bit, zs_or1, zs_div, zs_rem, ck_pos, if_pos, if_neg, true_or, or_true, true_and, and_true, false_or, or_false, false_and, and_false, not_true, not_false_iff, if_true, if_false, eq_self, Bool.false_eq_true, cl2_id, Bool.not_true, Bool.not_false]
  | succ j ih =>
    intro k n m h hM hT hk hn
    obtain ⟨n, rfl⟩ : ∃ n', n = n' + 1 := ⟨n - 1, by omega⟩
    have e2 := h.2.1 (100 + i) (by omega)
    have e4 := (hM i hi).2 (p + k) (by omega)
    rw [← Nat.add_assoc] at e4
    have hlk := hl (p + k) (by omega)
    have hc60 := mcl_lt hO hi (p := p) (k := k) (by omega)
    have ecl : mcl r s i p k = 30 * r (100 + i) + (zWs r s i).getD (p + k) 0 := rfl
    generalize hgc : (zWs r s i).getD (p + k) 0 = g at e4 hlk ecl
    have t1 := hT (mcl r s i p k) hc60
    have hg1 : gcl r s i p (mcl r s i p k) k = true := decide_eq_true rfl
    rw [z_ct, hg1] at t1
    have hct := z_ct_le (gcl r s i p (mcl r s i p k)) j (k + 1)
    have hT0c := hT0 (mcl r s i p k)
    have p1 : Fm m (setI m 150 (mcl r s i p k) (nI (T0 (mcl r s i p k) + z_ct (gcl r s i p (mcl r s i p k)) (k + 1) j))) := (Fm.rf m).s9 _
    obtain ⟨m2, f1, f2, f3, f4⟩ := ih (k + 1) n _ (h.fm p1) (hM.fm p1) (fun c hc => by
      by_cases q : c = mcl r s i p k
      · subst q; rw [sI_eq]
      · rw [sI_nj q, hT c hc, z_ct]
        have : gcl r s i p c k = false := decide_eq_false (fun z => q z.symm)
        rw [this]
        simp) (by omega) (by omega)
    refine ⟨m2, ?_, p1.tr f2, fun b k hb => (f3 b k hb).trans (sI_na hb), f4⟩
    rw [fX11_mendFrom_236]
    simp only [if_true] at t1
    generalize z_ct (gcl r s i p (mcl r s i p k)) (k + 1) j = ζ at t1 f1 hct
    generalize T0 (mcl r s i p k) = τ at t1 f1 hT0c
    rw [ecl] at t1 f1 hc60
    have es : τ + (1 + ζ) - 1 = τ + ζ := by omega
    simp (disch := omega) only [e2, e4, t1, es, cl2_so, cl1_so, ck_tr, zl_0, zl_1, zl_2, zl_3, zl_4, zl_5, zl_6, zl_7, zl_8, zl_9, zl_10, zl_11, zl_12, zl_15, zl_16, zl_20, zl_24, zl_25, zl_30, zl_31, zl_32, zl_33, zl_44, zl_48, zl_50, zl_57, zl_59, zl_60, zl_61, zl_62, zl_63, zl_64, zl_68, zl_97, zl_99, zl_100, zl_104, zl_108, zl_114, zl_120, zl_122, zl_126, zl_132, zl_180, zl_181, zl_186, zl_255, zl_900, zl_930, zl_1000, zl_1000000, nI_add, pk_mul, zs_sub, zs_lt, zs_le, zs_eq, zs_inb, zs_cl, zm_eq, zm_eq2, zm_lt, zm_le, mz_lt, mz_le, mm_eq, zs_bit, zs_or1, zs_div, zs_rem, ck_pos, if_pos, if_neg, true_or, or_true, true_and, and_true, false_or, or_false, false_and, and_false, not_true, not_false_iff, if_true, if_false, eq_self, Bool.false_eq_true, cl2_id, Bool.not_true, Bool.not_false]
    exact f1
/-- what the next wishes find -/
def GoM (r s : Nat → Nat) (i B : Nat) (rec : Int32 → Int32 → Me → Option Me) (G : (Nat → Option Nat) → Option Nat) : Prop := ∀ cost o N T (m : Me), KM m r s → RMs m r s → RT m N T → (∀ c, T c ≤ 8 * (i + 1)) → cost ≤ 8 * (i + 1) → (∀ x, o = some x → x ≤ 32) → m.1 138 31 = nI (o.getD 1000000) → ∃ m', rec (nI (i + 1)) (nI cost) m = some m' ∧ Fm m m' ∧ RT m' N T ∧ m'.1 138 31 = nI ((omin o (oad cost (G N))).getD 1000000)
theorem mf28 (hO : KO r s) {i : Nat} (hi : i < r 6) {rec : Int32 → Int32 → Me → Option Me} {G : (Nat → Option Nat) → Option Nat} (hrec : GoM r s i 0 rec G) (hG : ∀ N x, G N = some x → x ≤ 8 * (r 6 - (i + 1))) {cost : Nat} (hcost : cost ≤ 8 * i) {N : Nat → Option Nat} {T : Nat → Nat} (hT : ∀ c, T c ≤ 8 * i) : ∀ j p n o (m : Me), KM m r s → RMs m r s → RT m N T → (∀ x, o = some x → x ≤ 32) → m.1 138 31 = nI (o.getD 1000000) → p + j = npl r s i → j < n → ∃ m', fX11_mendFrom_28 rec n (nI i) (nI cost) (nI p) m = some m' ∧ Fm m m' ∧ RT m' N T ∧ m'.1 138 31 = nI ((omin o (oad cost (mpl r s i G p j N))).getD 1000000) := by
  obtain ⟨h6, o1, o8, oS, oO, oL⟩ := hO.1.i hi
  obtain ⟨hL, hl⟩ := zWs_ok hO hi
  intro j
  induction j with
  | zero =>
    intro p n o m h hM hR ho he hp hn
    obtain ⟨n, rfl⟩ : ∃ n', n = n' + 1 := ⟨n - 1, by omega⟩
    have e1 := h.2.1 (64 + i) (by omega)
    have e2 := (hM i hi).1
    unfold npl at hp
    refine ⟨m, ?_, Fm.rf m, hR, ?_⟩
    · rw [fX11_mendFrom_28]
      simp (disch := omega) only [e1, e2, cl2_so, cl1_so, ck_tr, zl_0, zl_1, zl_2, zl_3, zl_4, zl_5, zl_6, zl_7, zl_8, zl_9, zl_10, zl_11, zl_12, zl_15, zl_16, zl_20, zl_24, zl_25, zl_30, zl_31, zl_32, zl_33, zl_44, zl_48, zl_50, zl_57, zl_59, zl_60, zl_61, zl_62, zl_63, zl_64, zl_68, zl_97, zl_99, zl_100, zl_104, zl_108, zl_114, zl_120, zl_122, zl_126, zl_132, zl_180, zl_181, zl_186, zl_255, zl_900, zl_930, zl_1000, zl_1000000, nI_add, pk_mul, zs_sub, zs_lt, zs_le, zs_eq, zs_inb, zs_cl, zm_eq, zm_eq2, zm_lt, zm_le, mz_lt, mz_le, mm_eq, zs_bit, zs_or1, zs_div, zs_rem, ck_pos, if_pos, if_neg, true_or, or_true, true_and, and_true, false_or, or_false, false_and, and_false, not_true, not_false_iff, if_true, if_false, eq_self, Bool.false_eq_true, cl2_id, Bool.not_true, Bool.not_false]
    · rw [mpl]
      show _ = nI ((omin o none).getD 1000000)
      rw [omin_n]
      exact he
  | succ j ih =>
    intro p n o m h hM hR ho he hp hn
    obtain ⟨n, rfl⟩ : ∃ n', n = n' + 1 := ⟨n - 1, by omega⟩
    have e1 := h.2.1 (64 + i) (by omega)
    have e2 := (hM i hi).1
    have hp' : p + r (64 + i) ≤ (zWs r s i).length := by unfold npl at hp; omega
    have hT40 : ∀ c, T c ≤ 40 := fun c => by have := hT c; omega
    obtain ⟨m1, kk, nn, N1, b, f1, f2, f3, f4, f5, f6, f7, f8⟩ := pu57 (x2 := nI cost) hO hi hp' (rec := rec) (k28 := fX11_mendFrom_28 rec n) (T0 := T) (N0 := N) hT40 (r (64 + i)) 0 FU 0 N m h hM (by intro c hc; exact hR c hc) (fun _ _ => rfl) (by omega) (by omega) (FU_pos (by omega))
    have hct : ∀ c, z_ct (gcl r s i p c) 0 kk ≤ kk := fun c => z_ct_le _ _ _
    -- what is left behind a try
    have fin : ∀ (m2 : Me) o2, KM m2 r s → RMs m2 r s → RT m2 N1 (fun x => T x + z_ct (gcl r s i p x) 0 kk) → m2.1 138 31 = nI (o2.getD 1000000) → (∀ x, o2 = some x → x ≤ 32) → ∃ m', fX11_mendFrom_233 rec (fX11_mendFrom_28 rec n) (nI i) (nI cost) (nI p) (nI kk) m2 = some m' ∧ Fm m2 m' ∧ RT m' N T ∧ m'.1 138 31 = nI ((omin o2 (oad cost (mpl r s i G (p + 1) j N))).getD 1000000) := by
      intro m2 o2 g1 g2 g3 g4 g5
      obtain ⟨m3, i1, i2, i3, i4⟩ := un236 (x2 := nI cost) hO hi hp' f6 (rec := rec) (k28 := fX11_mendFrom_28 rec n) hT40 kk 0 FU m2 g1 g2 (fun c hc => (g3 c hc).1) (by omega) (FU_pos (by omega))
      obtain ⟨m4, j1, j2, j3, j4⟩ := ih (p + 1) n o2 m3 (g1.fm i2) (g2.fm i2) (fun c hc => by
        refine ⟨i4 c hc, ?_⟩
        rcases (hR c hc).2 with ⟨z1, z2⟩ | ⟨z1, l, z2, z3, z4⟩
        · exact Or.inl ⟨z1, z2⟩
        · refine Or.inr ⟨z1, l, z2, z3, ?_⟩
          rw [i3 _ _ (by decide)]
          rcases (g3 c hc).2 with ⟨y1, y2⟩ | ⟨y1, l', y2, y3, y4⟩
          · have : T c + z_ct (gcl r s i p c) 0 kk = 0 := y1
            omega
          · rw [f5 c z1, z3] at y3
            rw [Option.some.inj y3]
            exact y4) g5 ((i3 _ _ (by decide)).trans g4) (by omega) (by omega)
      refine ⟨m4, ?_, i2.tr j2, j3, j4⟩
      unfold fX11_mendFrom_233
      rw [zl_0, i1]
      exact j1
    have hKM1 := h.fm f2
    have hRM1 := hM.fm f2
    have key : fX11_mendFrom_28 rec (n + 1) (nI i) (nI cost) (nI p) m = fX11_mendFrom_217 rec (fX11_mendFrom_28 rec n) (nI i) (nI cost) (nI p) (nI nn) (nI kk) (nI (if b = true then 1 else 0)) m1 := by
      rw [fX11_mendFrom_28]
      simp (disch := omega) only [e1, e2, cl2_so, cl1_so, ck_tr, zl_0, zl_1, zl_2, zl_3, zl_4, zl_5, zl_6, zl_7, zl_8, zl_9, zl_10, zl_11, zl_12, zl_15, zl_16, zl_20, zl_24, zl_25, zl_30, zl_31, zl_32, zl_33, zl_44, zl_48, zl_50, zl_57, zl_59, zl_60, zl_61, zl_62, zl_63, zl_64, zl_68, zl_97, zl_99, zl_100, zl_104, zl_108, zl_114, zl_120, zl_122, zl_126, zl_132, zl_180, zl_181, zl_186, zl_255, zl_900, zl_930, zl_1000, zl_1000000, nI_add, pk_mul, zs_sub, zs_lt, zs_le, zs_eq, zs_inb, zs_cl, zm_eq, zm_eq2, zm_lt, zm_le, mz_lt, mz_le, mm_eq, zs_bit, zs_or1, zs_div, zs_rem, ck_pos, if_pos, if_neg, true_or, or_true, true_and, and_true, false_or, or_false, false_and, and_false, not_true, not_false_iff, if_true, if_false, eq_self, Bool.false_eq_true, cl2_id, Bool.not_true, Bool.not_false]
      exact f1
    rw [key, mpl, f8]
    unfold fX11_mendFrom_217
    cases b
    · obtain ⟨m3, g1, g2, g3, g4⟩ := fin m1 o hKM1 hRM1 f4 (f3.trans he) ho
      refine ⟨m3, ?_, f2.tr g2, g3, ?_⟩
      · simp (disch := omega) only [cl2_so, cl1_so, ck_tr, zl_0, zl_1, zl_2, zl_3, zl_4, zl_5, zl_6, zl_7, zl_8, zl_9, zl_10, zl_11, zl_12, zl_15, zl_16, zl_20, zl_24, zl_25, zl_30, zl_31, zl_32, zl_33, zl_44, zl_48, zl_50, zl_57, zl_59, zl_60, zl_61, zl_62, zl_63, zl_64, zl_68, zl_97, zl_99, zl_100, zl_104, zl_108, zl_114, zl_120, zl_122, zl_126, zl_132, zl_180, zl_181, zl_186, zl_255, zl_900, zl_930, zl_1000, zl_1000000, nI_add, pk_mul, zs_sub, zs_lt, zs_le, zs_eq, zs_inb, zs_cl, zm_eq, zm_eq2, zm_lt, zm_le, mz_lt, mz_le, mm_eq, zs_bit, zs_or1, zs_div, zs_rem, ck_pos, if_pos, if_neg, true_or, or_true, true_and, and_true, false_or, or_false, false_and, and_false, not_true, not_false_iff, if_true, if_false, eq_self, Bool.false_eq_true, cl2_id, Bool.not_true, Bool.not_false]
        exact g1
      · exact g4
    · obtain ⟨m2, g1, g2, g3, g4⟩ := hrec (cost + nn) o N1 _ m1 hKM1 hRM1 f4 (fun c => by have := hT c; have := hct c; show T c + z_ct (gcl r s i p c) 0 kk ≤ _; omega) (by omega) ho (f3.trans he)
      have hB : ∀ x, oad (cost + nn) (G N1) = some x → x ≤ 32 := by
        intro x hx
        cases hg : G N1 with
        | none => rw [hg] at hx; cases hx
        | some y =>
          rw [hg] at hx
          have := hG N1 y hg
          have h3 : y + (cost + nn) = x := Option.some.inj hx
          omega
      obtain ⟨m3, i1, i2, i3, i4⟩ := fin m2 (omin o (oad (cost + nn) (G N1))) (hKM1.fm g2) (hRM1.fm g2) g3 g4 (omin_le ho hB)
      refine ⟨m3, ?_, (f2.tr g2).tr i2, i3, ?_⟩
      · simp (disch := omega) only [g1, cl2_so, cl1_so, ck_tr, zl_0, zl_1, zl_2, zl_3, zl_4, zl_5, zl_6, zl_7, zl_8, zl_9, zl_10, zl_11, zl_12, zl_15, zl_16, zl_20, zl_24, zl_25, zl_30, zl_31, zl_32, zl_33, zl_44, zl_48, zl_50, zl_57, zl_59, zl_60, zl_61, zl_62, zl_63, zl_64, zl_68, zl_97, zl_99, zl_100, zl_104, zl_108, zl_114, zl_120, zl_122, zl_126, zl_132, zl_180, zl_181, zl_186, zl_255, zl_900, zl_930, zl_1000, zl_1000000, nI_add, pk_mul, zs_sub, zs_lt, zs_le, zs_eq, zs_inb, zs_cl, zm_eq, zm_eq2, zm_lt, zm_le, mz_lt, mz_le, mm_eq, zs_bit, zs_or1, zs_div, zs_rem, ck_pos, if_pos, if_neg, true_or, or_true, true_and, and_true, false_or, or_false, false_and, and_false, not_true, not_false_iff, if_true, if_false, eq_self, Bool.false_eq_true, cl2_id, Bool.not_true, Bool.not_false]
        exact i1
      · rw [i4, omin_assoc]
        show _ = nI ((omin o (oad cost (omin (oad nn (G N1)) (mpl r s i G (p + 1) j N)))).getD 1000000)
        rw [oad_omin, oad_oad]
theorem mfG (hO : KO r s) (hb : ∀ i, i < r 6 → z_bare (z_wish r i) = false) : ∀ j i n cost o N T (m : Me), i + j = r 6 → j < n → KM m r s → RMs m r s → RT m N T → (∀ c, T c ≤ 8 * i) → cost ≤ 8 * i → (∀ x, o = some x → x ≤ 32) → m.1 138 31 = nI (o.getD 1000000) → ∃ m', fX11_mendFrom n (nI i) (nI cost) m = some m' ∧ Fm m m' ∧ RT m' N T ∧ m'.1 138 31 = nI ((omin o (oad cost (mbl r s (List.range' i j) N))).getD 1000000) := by
  have h6 := hO.1.2.2.2.2.1
  intro j
  induction j with
  | zero =>
    intro i n cost o N T m hi hn h hM hR hT hc ho he
    obtain ⟨n, rfl⟩ : ∃ n', n = n' + 1 := ⟨n - 1, by omega⟩
    have e1 := h.2.1 6 (by omega)
    rw [fX11_mendFrom]
    have eb0 : oad cost (mbl r s (List.range' i 0) N) = some (0 + cost) := rfl
    rw [eb0]
    cases o with
    | none =>
      have he' : m.1 138 31 = nI 1000000 := he
      refine ⟨setI m 138 31 (nI cost), ?_, (Fm.rf m).sl _, fun c hc => ?_, ?_⟩
      · have : i = r 6 := by omega
        simp (disch := omega) only [he', e1, this, cl2_so, cl1_so, ck_tr, zl_0, zl_1, zl_2, zl_3, zl_4, zl_5, zl_6, zl_7, zl_8, zl_9, zl_10, zl_11, zl_12, zl_15, zl_16, zl_20, zl_24, zl_25, zl_30, zl_31, zl_32, zl_33, zl_44, zl_48, zl_50, zl_57, zl_59, zl_60, zl_61, zl_62, zl_63, zl_64, zl_68, zl_97, zl_99, zl_100, zl_104, zl_108, zl_114, zl_120, zl_122, zl_126, zl_132, zl_180, zl_181, zl_186, zl_255, zl_900, zl_930, zl_1000, zl_1000000, nI_add, pk_mul, zs_sub, zs_lt, zs_le, zs_eq, zs_inb, zs_cl, zm_eq, zm_eq2, zm_lt, zm_le, mz_lt, mz_le, mm_eq, zs_bit, zs_or1, zs_div, zs_rem, ck_pos, if_pos, if_neg, true_or, or_true, true_and, and_true, false_or, or_false, false_and, and_false, not_true, not_false_iff, if_true, if_false, eq_self, Bool.false_eq_true, cl2_id, Bool.not_true, Bool.not_false]
      · have := hR c hc
        rw [sI_na (by decide), sI_na (by decide)]
        exact this
      · rw [sI_eq, Nat.zero_add]
        rfl
    | some x =>
      have hx := ho x rfl
      have he' : m.1 138 31 = nI x := he
      by_cases q : cost < x
      · refine ⟨setI m 138 31 (nI cost), ?_, (Fm.rf m).sl _, fun c hc => ?_, ?_⟩
        · have : i = r 6 := by omega
          simp (disch := omega) only [he', e1, this, cl2_so, cl1_so, ck_tr, zl_0, zl_1, zl_2, zl_3, zl_4, zl_5, zl_6, zl_7, zl_8, zl_9, zl_10, zl_11, zl_12, zl_15, zl_16, zl_20, zl_24, zl_25, zl_30, zl_31, zl_32, zl_33, zl_44, zl_48, zl_50, zl_57, zl_59, zl_60, zl_61, zl_62, zl_63, zl_64, zl_68, zl_97, zl_99, zl_100, zl_104, zl_108, zl_114, zl_120, zl_122, zl_126, zl_132, zl_180, zl_181, zl_186, zl_255, zl_900, zl_930, zl_1000, zl_1000000, nI_add, pk_mul, zs_sub, zs_lt, zs_le, zs_eq, zs_inb, zs_cl, zm_eq, zm_eq2, zm_lt, zm_le, mz_lt, mz_le, mm_eq, zs_bit, zs_or1, zs_div, zs_rem, ck_pos, if_pos, if_neg, true_or, or_true, true_and, and_true, false_or, or_false, false_and, and_false, not_true, not_false_iff, if_true, if_false, eq_self, Bool.false_eq_true, cl2_id, Bool.not_true, Bool.not_false]
        · have := hR c hc
          rw [sI_na (by decide), sI_na (by decide)]
          exact this
        · rw [sI_eq, Nat.zero_add]
          show _ = nI (if cost < x then cost else x)
          rw [if_pos q]
      · refine ⟨m, ?_, Fm.rf m, hR, ?_⟩
        · simp (disch := omega) only [he', e1, cl2_so, cl1_so, ck_tr, zl_0, zl_1, zl_2, zl_3, zl_4, zl_5, zl_6, zl_7, zl_8, zl_9, zl_10, zl_11, zl_12, zl_15, zl_16, zl_20, zl_24, zl_25, zl_30, zl_31, zl_32, zl_33, zl_44, zl_48, zl_50, zl_57, zl_59, zl_60, zl_61, zl_62, zl_63, zl_64, zl_68, zl_97, zl_99, zl_100, zl_104, zl_108, zl_114, zl_120, zl_122, zl_126, zl_132, zl_180, zl_181, zl_186, zl_255, zl_900, zl_930, zl_1000, zl_1000000, nI_add, pk_mul, zs_sub, zs_lt, zs_le, zs_eq, zs_inb, zs_cl, zm_eq, zm_eq2, zm_lt, zm_le, mz_lt, mz_le, mm_eq, zs_bit, zs_or1, zs_div, zs_rem, ck_pos, if_pos, if_neg, true_or, or_true, true_and, and_true, false_or, or_false, false_and, and_false, not_true, not_false_iff, if_true, if_false, eq_self, Bool.false_eq_true, cl2_id, Bool.not_true, Bool.not_false]
        · rw [Nat.zero_add]
          show _ = nI (if cost < x then cost else x)
          rw [if_neg q, he']
  | succ j ih =>
    intro i n cost o N T m hi hn h hM hR hT hc ho he
    obtain ⟨n, rfl⟩ : ∃ n', n = n' + 1 := ⟨n - 1, by omega⟩
    have e1 := h.2.1 6 (by omega)
    have hi' : i < r 6 := by omega
    obtain ⟨hL, hl⟩ := zWs_ok hO hi'
    have hG : GoM r s i 0 (fX11_mendFrom n) (mbl r s (List.range' (i + 1) j)) := fun cost o N T m a b c d e f g => ih (i + 1) n cost o N T m (by omega) (by omega) a b c d e f g
    obtain ⟨m1, f1, f2, f3, f4⟩ := mf28 (s := s) hO hi' hG (fun N x hx => by
      have := mbl_le hO.1 _ N x (fun a ha => by have := List.mem_range'_1.mp ha; omega) hx
      rw [List.length_range'] at this
      omega) hc (N := N) hT (npl r s i) 0 FU o m h hM hR ho he (by omega) (FU_pos (by unfold npl; omega))
    have eb : mbl r s (List.range' i (j + 1)) N = mpl r s i (mbl r s (List.range' (i + 1) j)) 0 (npl r s i) N := by
      rw [List.range'_succ, mbl, hb i hi']
      rfl
    rw [fX11_mendFrom]
    by_cases q : cost < o.getD 1000000
    · refine ⟨m1, ?_, f2, f3, by rw [eb]; exact f4⟩
      have hlt : o.getD 1000000 < 2147483648 := by
        cases o with
        | none => decide
        | some x => have := ho x rfl; show x < _; omega
      have hne : ¬ i = r 6 := by omega
      simp (disch := omega) only [he, e1, hne, q, cl2_so, cl1_so, ck_tr, zl_0, zl_1, zl_2, zl_3, zl_4, zl_5, zl_6, zl_7, zl_8, zl_9, zl_10, zl_11, zl_12, zl_15, zl_16, zl_20, zl_24, zl_25, zl_30, zl_31, zl_32, zl_33, zl_44, zl_48, zl_50, zl_57, zl_59, zl_60, zl_61, zl_62, zl_63, zl_64, zl_68, zl_97, zl_99, zl_100, zl_104, zl_108, zl_114, zl_120, zl_122, zl_126, zl_132, zl_180, zl_181, zl_186, zl_255, zl_900, zl_930, zl_1000, zl_1000000, nI_add, pk_mul, zs_sub, zs_lt, zs_le, zs_eq, zs_inb, zs_cl, zm_eq, zm_eq2, zm_lt, zm_le, mz_lt, mz_le, mm_eq, zs_bit, zs_or1, zs_div, zs_rem, ck_pos, if_pos, if_neg, true_or, or_true, true_and, and_true, false_or, or_false, false_and, and_false, not_true, not_false_iff, if_true, if_false, eq_self, Bool.false_eq_true, cl2_id, Bool.not_true, Bool.not_false]
      exact f1
    · cases o with
      | none => exact absurd (show cost < 1000000 by omega) q
      | some x =>
        have q' : ¬ cost < x := q
        have hx := ho x rfl
        have he' : m.1 138 31 = nI x := he
        refine ⟨m, ?_, Fm.rf m, hR, ?_⟩
        · simp (disch := omega) only [he', q', cl2_so, cl1_so, ck_tr, zl_0, zl_1, zl_2, zl_3, zl_4, zl_5, zl_6, zl_7, zl_8, zl_9, zl_10, zl_11, zl_12, zl_15, zl_16, zl_20, zl_24, zl_25, zl_30, zl_31, zl_32, zl_33, zl_44, zl_48, zl_50, zl_57, zl_59, zl_60, zl_61, zl_62, zl_63, zl_64, zl_68, zl_97, zl_99, zl_100, zl_104, zl_108, zl_114, zl_120, zl_122, zl_126, zl_132, zl_180, zl_181, zl_186, zl_255, zl_900, zl_930, zl_1000, zl_1000000, nI_add, pk_mul, zs_sub, zs_lt, zs_le, zs_eq, zs_inb, zs_cl, zm_eq, zm_eq2, zm_lt, zm_le, mz_lt, mz_le, mm_eq, zs_bit, zs_or1, zs_div, zs_rem, ck_pos, if_pos, if_neg, true_or, or_true, true_and, and_true, false_or, or_false, false_and, and_false, not_true, not_false_iff, if_true, if_false, eq_self, Bool.false_eq_true, cl2_id, Bool.not_true, Bool.not_false]
        · rw [omin_ge (by omega)]
          exact he'
end MA1
