/-! mendAll: what wishes can save; the class's bounds -/
section MA5
variable {m : Me} {H : Bool} {t : Nat} {r s : Nat → Nat} {x1 x2 x3 x4 : Int32}
theorem mclm_ct0 (hO : KO r s) {i p : Nat} (hi : i < r 6) (hp : p + r (64 + i) ≤ (zWs r s i).length) : ∀ j k N n N' n', k + j = r (64 + i) → (∀ q, k ≤ q → q < r (64 + i) → N (mcl r s i p q) = none) → mclm r s i p k j N n = some (N', n') → n' = n + z_ct (fun q => !decide (s (mcl r s i p q) = mlt r i q)) k j
  | 0, k, N, n, N', n', hk, h, e => by
    have := congrArg Prod.snd (Option.some.inj e)
    rw [z_ct]
    exact this.symm
  | j + 1, k, N, n, N', n', hk, h, e => by
    rw [mclm, h k (by omega) (by omega)] at e
    have g := mclm_ct0 hO hi hp j (k + 1) _ _ N' n' (by omega) (fun q a b => by
      unfold updU
      rw [if_neg (fun z => by have := mcl_inj hO hi (by omega) (by omega) z; omega)]
      exact h q (by omega) b) e
    rw [g, z_ct]
    by_cases q : s (mcl r s i p k) = mlt r i k
    · simp only [q, if_true, decide_true, Bool.not_true, Bool.false_eq_true, if_false]
      omega
    · simp only [q, if_false, decide_false, Bool.not_false, if_true]
      omega
theorem dl0_ct (hO : KO r s) {i p : Nat} (hi : i < r 6) (hp : p + r (64 + i) ≤ (zWs r s i).length) : dl s n0 (PLc r s i p) = z_ct (fun q => !decide (s (mcl r s i p q) = mlt r i q)) 0 (r (64 + i)) := by
  rcases mclm_e hO hi hp n0 with ⟨_, e⟩ | ⟨z, _⟩
  · have := mclm_ct0 hO hi hp _ _ _ _ _ _ (by omega) (fun _ _ _ => rfl) e
    omega
  · exact absurd (cpt_n0 _) z
theorem sat_e (hO : KO r s) {e i d p : Nat} {is : List Nat} (hd : d < is.length) (hid : is.getD d 0 = i) (hp : p + r (64 + i) ≤ (zWs r s i).length) (h : Wdh m t r s e is) : fX7_strangeAt (103 + 5 * d) (t + 19 + 2 * i) (nI p) m = some (nI (dl s n0 (PLc r s i p)), m) := by
  obtain ⟨hi, he, er, hsy, g1, g2⟩ := h.gw hd hid
  obtain ⟨h6, o1, o8, oS, oO, oL⟩ := hO.1.i hi
  have hL := (zWs_ok hO hi).1
  have hR := (h.2.1.2 d hd).2.1
  rw [hid] at hR
  have hwk := wish_ok hO.1 hi
  have ez : zWs r s i = z_show r e (r (104 + i)) (s 60) := by unfold zWs; rw [he]
  have el : (zT r s e (r (104 + i)) (s 60)).length = (zWs r s i).length := by rw [zT_len, ez]
  have e1 := fX7_strangeAt_e hR hsy hwk.2.1 (zT_30 hO _ oO) hwk.2.2 (zT_k hO _ (by omega) oO) (p := p) (by omega)
  rw [e1, z_wish_len, el, if_pos hp, dl0_ct hO hi hp]
  congr 3
  refine z_ct_congr _ _ (fun q _ hq => ?_)
  unfold z_g
  have hw : (z_wish r i).getD q 0 = mlt r i q := z_w_at (by omega)
  rw [hw, zT_at (by rw [← ez]; omega)]
  unfold mcl
  rw [he, ez]
theorem ms25 (hO : KO r s) {e i w a b p : Nat} {is : List Nat} (ha : a < is.length) (hia : is.getD a 0 = i) (hb : b < is.length) (hib : is.getD b 0 = w) (hlw : r (64 + w) ≤ (zWs r s w).length) {B : Nat → Option Nat} (h : Wdh m t r s e is) (hN : NB m r e (PLc r s i p) B) {k5 : Int32 → Int32 → Int32 → Int32 → Me → Option (Int32 × Me)} (hp : p ≤ 30) : ∀ j q n c, q + j = npl r s w → j < n → c ≤ 8 → fX3_mostSaved_25 n k5 (nI a) (nI b) (nI c) (nI p) (nI q) m = cl1 (fX3_release (nI a) (nI p) m) fun m16 => k5 (nI a) (nI b) (nI (mxI r s i p w q j c)) (nI (p + 1)) m16 := by
  have h4 := h.2.2.1
  have hw := h.gw hb hib
  have lp := lpl_e hO hw (by omega) hlw
  obtain ⟨hi, he, er, -, g1, g2⟩ := hw
  obtain ⟨h6, o1, o8, oS, oO, oL⟩ := hO.1.i hi
  have hL := (zWs_ok hO hi).1
  intro j
  induction j with
  | zero =>
    intro q n c hq hn hc
    obtain ⟨n, rfl⟩ : ∃ n', n = n' + 1 := ⟨n - 1, by omega⟩
    unfold npl at hq
    rw [fX3_mostSaved_25, mxI]
    simp (disch := omega) only [lp, cl2_so, cl1_so, ck_tr, zl_0, zl_1, zl_2, zl_3, zl_4, zl_5, zl_6, zl_7, zl_8, zl_9, zl_10, zl_11, zl_12, zl_15, zl_16, zl_20, zl_24, zl_25, zl_30, zl_31, zl_32, zl_33, zl_44, zl_48, zl_50, zl_57, zl_59, zl_60, zl_61, zl_62, zl_63, zl_64, zl_68, zl_97, zl_99, zl_100, zl_104, zl_108, zl_114, zl_120, zl_122, zl_126, zl_132, zl_180, zl_181, zl_186, zl_255, zl_900, zl_930, zl_1000, zl_1000000, nI_add, pk_mul, zs_sub, zs_lt, zs_le, zs_eq, zs_inb, zs_cl, zm_eq, zm_eq2, zm_lt, zm_le, mz_lt, mz_le, mm_eq, zs_bit, zs_or1, zs_div, zs_rem, ck_pos, if_pos, if_neg, true_or, or_true, true_and, and_true, false_or, or_false, false_and, and_false, not_true, not_false_iff, if_true, if_false, eq_self, Bool.false_eq_true, cl2_id, Bool.not_true, Bool.not_false]
  | succ j ih =>
    intro q n c hq hn hc
    obtain ⟨n, rfl⟩ : ∃ n', n = n' + 1 := ⟨n - 1, by omega⟩
    have hqn : q < npl r s w := by omega
    have hq' := npl_at hqn
    have e1 := cfr_e hO hb hib hq' h hN
    have e2 := sat_e hO hb hib hq' h
    have b1 := dl0_8 hO hi hqn o8
    rw [fX3_mostSaved_25, mxI]
    unfold fX3_mostSaved_75
    cases hc' : cso r s (PLc r s i p) w q with
    | none =>
      rw [hc'] at e1
      simp only [cvI] at e1
      simp only
      rw [← ih (q + 1) n c (by omega) (by omega) hc]
      simp (disch := omega) only [lp, e1, cl2_so, cl1_so, ck_tr, zl_0, zl_1, zl_2, zl_3, zl_4, zl_5, zl_6, zl_7, zl_8, zl_9, zl_10, zl_11, zl_12, zl_15, zl_16, zl_20, zl_24, zl_25, zl_30, zl_31, zl_32, zl_33, zl_44, zl_48, zl_50, zl_57, zl_59, zl_60, zl_61, zl_62, zl_63, zl_64, zl_68, zl_97, zl_99, zl_100, zl_104, zl_108, zl_114, zl_120, zl_122, zl_126, zl_132, zl_180, zl_181, zl_186, zl_255, zl_900, zl_930, zl_1000, zl_1000000, nI_add, pk_mul, zs_sub, zs_lt, zs_le, zs_eq, zs_inb, zs_cl, zm_eq, zm_eq2, zm_lt, zm_le, mz_lt, mz_le, mm_eq, zs_bit, zs_or1, zs_div, zs_rem, ck_pos, if_pos, if_neg, true_or, or_true, true_and, and_true, false_or, or_false, false_and, and_false, not_true, not_false_iff, if_true, if_false, eq_self, Bool.false_eq_true, cl2_id, Bool.not_true, Bool.not_false]
    | some x =>
      rw [hc'] at e1
      simp only [cvI] at e1
      simp only
      obtain ⟨cp, hx⟩ := cso_s hO hi hqn hc'
      have b2 := dl_0 s (PLc r s i p) (PLc r s w q)
      by_cases hv : c < dl s n0 (PLc r s w q) - x
      · rw [if_pos hv, ← ih (q + 1) n _ (by omega) (by omega) (by omega)]
        simp (disch := omega) only [lp, e1, er, e2, hv, cl2_so, cl1_so, ck_tr, zl_0, zl_1, zl_2, zl_3, zl_4, zl_5, zl_6, zl_7, zl_8, zl_9, zl_10, zl_11, zl_12, zl_15, zl_16, zl_20, zl_24, zl_25, zl_30, zl_31, zl_32, zl_33, zl_44, zl_48, zl_50, zl_57, zl_59, zl_60, zl_61, zl_62, zl_63, zl_64, zl_68, zl_97, zl_99, zl_100, zl_104, zl_108, zl_114, zl_120, zl_122, zl_126, zl_132, zl_180, zl_181, zl_186, zl_255, zl_900, zl_930, zl_1000, zl_1000000, nI_add, pk_mul, zs_sub, zs_lt, zs_le, zs_eq, zs_inb, zs_cl, zm_eq, zm_eq2, zm_lt, zm_le, mz_lt, mz_le, mm_eq, zs_bit, zs_or1, zs_div, zs_rem, ck_pos, if_pos, if_neg, true_or, or_true, true_and, and_true, false_or, or_false, false_and, and_false, not_true, not_false_iff, if_true, if_false, eq_self, Bool.false_eq_true, cl2_id, Bool.not_true, Bool.not_false]
      · rw [if_neg hv, ← ih (q + 1) n c (by omega) (by omega) hc]
        simp (disch := omega) only [lp, e1, er, e2, hv, cl2_so, cl1_so, ck_tr, zl_0, zl_1, zl_2, zl_3, zl_4, zl_5, zl_6, zl_7, zl_8, zl_9, zl_10, zl_11, zl_12, zl_15, zl_16, zl_20, zl_24, zl_25, zl_30, zl_31, zl_32, zl_33, zl_44, zl_48, zl_50, zl_57, zl_59, zl_60, zl_61, zl_62, zl_63, zl_64, zl_68, zl_97, zl_99, zl_100, zl_104, zl_108, zl_114, zl_120, zl_122, zl_126, zl_132, zl_180, zl_181, zl_186, zl_255, zl_900, zl_930, zl_1000, zl_1000000, nI_add, pk_mul, zs_sub, zs_lt, zs_le, zs_eq, zs_inb, zs_cl, zm_eq, zm_eq2, zm_lt, zm_le, mz_lt, mz_le, mm_eq, zs_bit, zs_or1, zs_div, zs_rem, ck_pos, if_pos, if_neg, true_or, or_true, true_and, and_true, false_or, or_false, false_and, and_false, not_true, not_false_iff, if_true, if_false, eq_self, Bool.false_eq_true, cl2_id, Bool.not_true, Bool.not_false]
theorem npl_30 (hO : KO r s) {i : Nat} (hi : i < r 6) : npl r s i ≤ 30 := by
  have := (zWs_ok hO hi).1
  have := (hO.1.i hi).2.1
  unfold npl
  omega
theorem ms5 (hO : KO r s) {e i w a b : Nat} {is : List Nat} (ha : a < is.length) (hia : is.getD a 0 = i) (hb : b < is.length) (hib : is.getD b 0 = w) (hli : r (64 + i) ≤ (zWs r s i).length) (hlw : r (64 + w) ≤ (zWs r s w).length) : ∀ j p n c (m : Me), Wdh m t r s e is → NB m r e n0 n0 → p + j = npl r s i → j < n → c ≤ 8 → ∃ m', fX3_mostSaved_5 n (nI a) (nI b) (nI c) (nI p) m = some (nI (mxO r s i w p j c), m') ∧ Fk m m' ∧ NB m' r e n0 n0 := by
  intro j
  induction j with
  | zero =>
    intro p n c m h hN hp hn hc
    obtain ⟨n, rfl⟩ : ∃ n', n = n' + 1 := ⟨n - 1, by omega⟩
    have hw := h.gw ha hia
    have h4 := h.2.2.1
    have hL := (zWs_ok hO hw.1).1
    have lp := lpl_e hO hw (by omega) hli
    refine ⟨m, ?_, Fk.rf m, hN⟩
    unfold npl at hp
    rw [fX3_mostSaved_5, mxO]
    simp (disch := omega) only [lp, cl2_so, cl1_so, ck_tr, zl_0, zl_1, zl_2, zl_3, zl_4, zl_5, zl_6, zl_7, zl_8, zl_9, zl_10, zl_11, zl_12, zl_15, zl_16, zl_20, zl_24, zl_25, zl_30, zl_31, zl_32, zl_33, zl_44, zl_48, zl_50, zl_57, zl_59, zl_60, zl_61, zl_62, zl_63, zl_64, zl_68, zl_97, zl_99, zl_100, zl_104, zl_108, zl_114, zl_120, zl_122, zl_126, zl_132, zl_180, zl_181, zl_186, zl_255, zl_900, zl_930, zl_1000, zl_1000000, nI_add, pk_mul, zs_sub, zs_lt, zs_le, zs_eq, zs_inb, zs_cl, zm_eq, zm_eq2, zm_lt, zm_le, mz_lt, mz_le, mm_eq, zs_bit, zs_or1, zs_div, zs_rem, ck_pos, if_pos, if_neg, true_or, or_true, true_and, and_true, false_or, or_false, false_and, and_false, not_true, not_false_iff, if_true, if_false, eq_self, Bool.false_eq_true, cl2_id, Bool.not_true, Bool.not_false]
  | succ j ih =>
    intro p n c m h hN hp hn hc
    obtain ⟨n, rfl⟩ : ∃ n', n = n' + 1 := ⟨n - 1, by omega⟩
    have hw := h.gw ha hia
    have h4 := h.2.2.1
    have hL := (zWs_ok hO hw.1).1
    have lp := lpl_e hO hw (by omega) hli
    have hpn : p < npl r s i := by omega
    have h30 := npl_30 hO hw.1
    have hww := (h.gw hb hib).1
    have w30 := npl_30 hO hww
    have w8 := (hO.1.i hww).2.2.1
    obtain ⟨m1, B1, f1, f2, f3, f4, f5⟩ := claim_e hO ha hia (npl_at hpn) h hN (fun x _ _ q z => by cases z)
    rw [ovl_n0] at f3 f5
    have h1 := h.fk hO f2
    have e1 := ms25 hO ha hia hb hib hlw h1 f3 (k5 := fX3_mostSaved_5 n) (by omega) (npl r s w) 0 FU c (by omega) (FU_pos (by omega)) hc
    obtain ⟨m2, g1, g2, g3⟩ := f5 m1 h1 f3
    obtain ⟨m3, i1, i2, i3⟩ := ih (p + 1) n (mxI r s i p w 0 (npl r s w) c) m2 (h1.fk hO g2) g3 (by omega) (by omega) (mxI_le (fun q hq => dl0_8 hO hww hq w8) _ _ _ (by omega) hc)
    refine ⟨m3, ?_, (f2.tr g2).tr i2, i3⟩
    rw [fX3_mostSaved_5, mxO]
    have hlt : ¬ (zWs r s i).length - r (64 + i) < p := by unfold npl at hpn; omega
    simp (disch := omega) only [lp, f1, hlt, e1, g1, cl2_so, cl1_so, ck_tr, zl_0, zl_1, zl_2, zl_3, zl_4, zl_5, zl_6, zl_7, zl_8, zl_9, zl_10, zl_11, zl_12, zl_15, zl_16, zl_20, zl_24, zl_25, zl_30, zl_31, zl_32, zl_33, zl_44, zl_48, zl_50, zl_57, zl_59, zl_60, zl_61, zl_62, zl_63, zl_64, zl_68, zl_97, zl_99, zl_100, zl_104, zl_108, zl_114, zl_120, zl_122, zl_126, zl_132, zl_180, zl_181, zl_186, zl_255, zl_900, zl_930, zl_1000, zl_1000000, nI_add, pk_mul, zs_sub, zs_lt, zs_le, zs_eq, zs_inb, zs_cl, zm_eq, zm_eq2, zm_lt, zm_le, mz_lt, mz_le, mm_eq, zs_bit, zs_or1, zs_div, zs_rem, ck_pos, if_pos, if_neg, true_or, or_true, true_and, and_true, false_or, or_false, false_and, and_false, not_true, not_false_iff, if_true, if_false, eq_self, Bool.false_eq_true, cl2_id, Bool.not_true, Bool.not_false]
    exact i1
/-- what is known of all wishes: each has a PLACE -/
def Hp (r s : Nat → Nat) (is : List Nat) : Prop := ∀ d, d < is.length → r (64 + is.getD d 0) ≤ (zWs r s (is.getD d 0)).length
def Fs (m m' : Me) : Prop := Ak sC m m' ∧ (∀ b k, b ≠ 99 → b ≠ 100 → b ≠ 102 → m'.1 b k = m.1 b k) ∧ m'.2 = m.2
theorem Fs.rf (m : Me) : Fs m m := ⟨Ak.rf m, fun _ _ _ _ _ => rfl, rfl⟩
theorem Fs.tr {m m' m'' : Me} (h : Fs m m') (h' : Fs m' m'') : Fs m m'' := ⟨h.1.tr h'.1, fun b k a c d => (h'.2.1 b k a c d).trans (h.2.1 b k a c d), h'.2.2.trans h.2.2⟩
theorem Fk.fs {m m' : Me} (h : Fk m m') : Fs m m' := ⟨h.1, fun b k a c _ => h.2.1 b k a c, h.2.2⟩
theorem Fs.s2 {m m' : Me} (h : Fs m m') {j : Nat} (x : Int32) : Fs m (setI m' 102 j x) := ⟨h.1.set x (sC_in (by omega) j), fun b k a c d => (sI_na d).trans (h.2.1 b k a c d), h.2.2⟩
theorem Wdh.fs {m' : Me} {e : Nat} {is : List Nat} (h : Wdh m t r s e is) (hO : KO r s) (hF : Fs m m') : Wdh m' t r s e is := ⟨h.1.ag hO hF.1.agC, h.2.1.cg (fun c j z => hF.2.1 _ _ (by omega) (by omega) (by omega)) hF.2.2, h.2.2⟩
theorem cmw14 (hO : KO r s) {e a : Nat} {is : List Nat} (hP : Hp r s is) (ha : a < is.length) {k2 : Int32 → Me → Option Me} : ∀ j w n (m : Me), Wdh m t r s e is → NB m r e n0 n0 → a < w → w + j = is.length → j < n → (∀ w', a < w' → w' < w → m.1 102 (a * 4 + w') = nI (sav r s (is.getD a 0) (is.getD w' 0))) → ∃ m', fX3_compareWishes_14 n k2 (nI a) (nI w) m = k2 (nI (a + 1)) m' ∧ Fs m m' ∧ NB m' r e n0 n0 ∧ (∀ k, k < a * 4 → m'.1 102 k = m.1 102 k) ∧ (∀ w', a < w' → w' < is.length → m'.1 102 (a * 4 + w') = nI (sav r s (is.getD a 0) (is.getD w' 0))) := by
  intro j
  induction j with
  | zero =>
    intro w n m h hN haw hw hn hS
    obtain ⟨n, rfl⟩ : ∃ n', n = n' + 1 := ⟨n - 1, by omega⟩
    have h4 := h.2.2.1
    have c2 := h.2.1.1
    refine ⟨m, ?_, Fs.rf m, hN, fun _ _ => rfl, fun w' x y => hS w' x (by omega)⟩
    rw [fX3_compareWishes_14]
    simp (disch := omega) only [c2, cl2_so, cl1_so, ck_tr, zl_0, zl_1, zl_2, zl_3, zl_4, zl_5, zl_6, zl_7, zl_8, zl_9, zl_10, zl_11, zl_12, zl_15, zl_16, zl_20, zl_24, zl_25, zl_30, zl_31, zl_32, zl_33, zl_44, zl_48, zl_50, zl_57, zl_59, zl_60, zl_61, zl_62, zl_63, zl_64, zl_68, zl_97, zl_99, zl_100, zl_104, zl_108, zl_114, zl_120, zl_122, zl_126, zl_132, zl_180, zl_181, zl_186, zl_255, zl_900, zl_930, zl_1000, zl_1000000, nI_add, pk_mul, zs_sub, zs_lt, zs_le, zs_eq, zs_inb, zs_cl, zm_eq, zm_eq2, zm_lt, zm_le, mz_lt, mz_le, mm_eq, zs_bit, zs_or1, zs_div, zs_rem, ck_pos, if_pos, if_neg, true_or, or_true, true_and, and_true, false_or, or_false, false_and, and_false, not_true, not_false_iff, if_true, if_false, eq_self, Bool.false_eq_true, cl2_id, Bool.not_true, Bool.not_false]
  | succ j ih =>
    intro w n m h hN haw hw hn hS
    obtain ⟨n, rfl⟩ : ∃ n', n = n' + 1 := ⟨n - 1, by omega⟩
    have h4 := h.2.2.1
    have c2 := h.2.1.1
    have hwl : w < is.length := by omega
    have hi := h.2.2.2 a ha
    have hwi := h.2.2.2 w hwl
    have w8 := (hO.1.i hwi.1).2.2.1
    have i30 := npl_30 hO hi.1
    obtain ⟨m1, f1, f2, f3⟩ := ms5 (t := t) hO ha rfl hwl rfl (hP a ha) (hP w hwl) (npl r s (is.getD a 0)) 0 FU 0 m h hN (by omega) (FU_pos (by omega)) (by omega)
    have f1' : fX3_mostSaved (nI a) (nI w) m = some (nI (sav r s (is.getD a 0) (is.getD w 0)), m1) := f1
    have p1 : Fs m (setI m1 102 (a * 4 + w) (nI (sav r s (is.getD a 0) (is.getD w 0)))) := f2.fs.s2 _
    obtain ⟨m2, g1, g2, g3, g4, g5⟩ := ih (w + 1) n _ (h.fs hO p1) (f3.cg (fun b k z => sI_na (by omega))) (by omega) (by omega) (by omega) (fun w' x y => by
      by_cases q : w' = w
      · subst q; exact sI_eq _ _ _ _
      · rw [sI_nj (by omega), f2.2.1 _ _ (by decide) (by decide)]
        exact hS w' x (by omega))
    refine ⟨m2, ?_, p1.tr g2, g3, fun k hk => ?_, g5⟩
    · rw [fX3_compareWishes_14]
      simp (disch := omega) only [c2, f1', cl2_so, cl1_so, ck_tr, zl_0, zl_1, zl_2, zl_3, zl_4, zl_5, zl_6, zl_7, zl_8, zl_9, zl_10, zl_11, zl_12, zl_15, zl_16, zl_20, zl_24, zl_25, zl_30, zl_31, zl_32, zl_33, zl_44, zl_48, zl_50, zl_57, zl_59, zl_60, zl_61, zl_62, zl_63, zl_64, zl_68, zl_97, zl_99, zl_100, zl_104, zl_108, zl_114, zl_120, zl_122, zl_126, zl_132, zl_180, zl_181, zl_186, zl_255, zl_900, zl_930, zl_1000, zl_1000000, nI_add, pk_mul, zs_sub, zs_lt, zs_le, zs_eq, zs_inb, zs_cl, zm_eq, zm_eq2, zm_lt, zm_le, mz_lt, mz_le, mm_eq, zs_bit, zs_or1, zs_div, zs_rem, ck_pos, if_pos, if_neg, true_or, or_true, true_and, and_true, false_or, or_false, false_and, and_false, not_true, not_false_iff, if_true, if_false, eq_self, Bool.false_eq_true, cl2_id, Bool.not_true, Bool.not_false]
      exact g1
    · rw [g4 k hk, sI_nj (by omega), f2.2.1 _ _ (by decide) (by decide)]
def SV (m : Me) (r s : Nat → Nat) (is : List Nat) (k : Nat) : Prop := ∀ a w, a < k → a < w → w < is.length → m.1 102 (a * 4 + w) = nI (sav r s (is.getD a 0) (is.getD w 0))
theorem cmw2 (hO : KO r s) {e : Nat} {is : List Nat} (hP : Hp r s is) : ∀ j a n (m : Me), Wdh m t r s e is → NB m r e n0 n0 → a + j = is.length → j < n → SV m r s is a → ∃ m', fX3_compareWishes_2 n (nI a) m = some m' ∧ Fs m m' ∧ NB m' r e n0 n0 ∧ SV m' r s is is.length := by
  intro j
  induction j with
  | zero =>
    intro a n m h hN ha hn hS
    obtain ⟨n, rfl⟩ : ∃ n', n = n' + 1 := ⟨n - 1, by omega⟩
    have h4 := h.2.2.1
    have c2 := h.2.1.1
    have : a = is.length := by omega
    subst this
    refine ⟨m, ?_, Fs.rf m, hN, hS⟩
    rw [fX3_compareWishes_2]
    simp (disch := omega) only [c2, cl2_so, cl1_so, ck_tr, zl_0, zl_1, zl_2, zl_3, zl_4, zl_5, zl_6, zl_7, zl_8, zl_9, zl_10, zl_11, zl_12, zl_15, zl_16, zl_20, zl_24, zl_25, zl_30, zl_31, zl_32, zl_33, zl_44, zl_48, zl_50, zl_57, zl_59, zl_60, zl_61, zl_62, zl_63, zl_64, zl_68, zl_97, zl_99, zl_100, zl_104, zl_108, zl_114, zl_120, zl_122, zl_126, zl_132, zl_180, zl_181, zl_186, zl_255, zl_900, zl_930, zl_1000, zl_1000000, nI_add, pk_mul, zs_sub, zs_lt, zs_le, zs_eq, zs_inb, zs_cl, zm_eq, zm_eq2, zm_lt, zm_le, mz_lt, mz_le, mm_eq, zs_bit, zs_or1, zs_div, zs_rem, ck_pos, if_pos, if_neg, true_or, or_true, true_and, and_true, false_or, or_false, false_and, and_false, not_true, not_false_iff, if_true, if_false, eq_self, Bool.false_eq_true, cl2_id, Bool.not_true, Bool.not_false]
  | succ j ih =>
    intro a n m h hN ha hn hS
    obtain ⟨n, rfl⟩ : ∃ n', n = n' + 1 := ⟨n - 1, by omega⟩
    have h4 := h.2.2.1
    have c2 := h.2.1.1
    obtain ⟨m1, f1, f2, f3, f4, f5⟩ := cmw14 (t := t) hO hP (a := a) (by omega) (k2 := fX3_compareWishes_2 n) j (a + 1) FU m h hN (by omega) (by omega) (FU_pos (by omega)) (fun w' x y => by omega)
    obtain ⟨m2, g1, g2, g3, g4⟩ := ih (a + 1) n m1 (h.fs hO f2) f3 (by omega) (by omega) (fun a' w x y z => by
      by_cases q : a' = a
      · subst q; exact f5 w y z
      · rw [f4 _ (by omega)]
        exact hS a' w (by omega) y z)
    refine ⟨m2, ?_, f2.tr g2, g3, g4⟩
    rw [fX3_compareWishes_2]
    simp (disch := omega) only [c2, cl2_so, cl1_so, ck_tr, zl_0, zl_1, zl_2, zl_3, zl_4, zl_5, zl_6, zl_7, zl_8, zl_9, zl_10, zl_11, zl_12, zl_15, zl_16, zl_20, zl_24, zl_25, zl_30, zl_31, zl_32, zl_33, zl_44, zl_48, zl_50, zl_57, zl_59, zl_60, zl_61, zl_62, zl_63, zl_64, zl_68, zl_97, zl_99, zl_100, zl_104, zl_108, zl_114, zl_120, zl_122, zl_126, zl_132, zl_180, zl_181, zl_186, zl_255, zl_900, zl_930, zl_1000, zl_1000000, nI_add, pk_mul, zs_sub, zs_lt, zs_le, zs_eq, zs_inb, zs_cl, zm_eq, zm_eq2, zm_lt, zm_le, mz_lt, mz_le, mm_eq, zs_bit, zs_or1, zs_div, zs_rem, ck_pos, if_pos, if_neg, true_or, or_true, true_and, and_true, false_or, or_false, false_and, and_false, not_true, not_false_iff, if_true, if_false, eq_self, Bool.false_eq_true, cl2_id, Bool.not_true, Bool.not_false]
    rw [f1]
    exact g1
/-! what the PLACES of a wish cost now -/
def Frw (d : Nat) (m m' : Me) : Prop := Ak sC m m' ∧ (∀ b k, ¬ (b = 101 ∧ d * 30 ≤ k) → m'.1 b k = m.1 b k) ∧ m'.2 = m.2
theorem Frw.rf (d : Nat) (m : Me) : Frw d m m := ⟨Ak.rf m, fun _ _ _ => rfl, rfl⟩
theorem Frw.tr {d : Nat} {m m' m'' : Me} (h : Frw d m m') (h' : Frw d m' m'') : Frw d m m'' := ⟨h.1.tr h'.1, fun b k a => (h'.2.1 b k a).trans (h.2.1 b k a), h'.2.2.trans h.2.2⟩
theorem Frw.mono {d d' : Nat} {m m' : Me} (h : Frw d' m m') (hd : d ≤ d') : Frw d m m' := ⟨h.1, fun b k a => h.2.1 b k (fun z => a ⟨z.1, by have := z.2; omega⟩), h.2.2⟩
theorem Frw.s1 {d : Nat} {m m' : Me} (h : Frw d m m') {j : Nat} (hj : d * 30 ≤ j) (x : Int32) : Frw d m (setI m' 101 j x) := ⟨h.1.set x (sC_in (by omega) j), fun b k a => ((sI_1 _ _ _ _ _ _).trans (if_neg (fun z => a ⟨z.1, by have := z.2; omega⟩))).trans (h.2.1 b k a), h.2.2⟩
theorem Wdh.fr {m' : Me} {e d : Nat} {is : List Nat} (h : Wdh m t r s e is) (hO : KO r s) (hF : Frw d m m') : Wdh m' t r s e is := ⟨h.1.ag hO hF.1.agC, h.2.1.cg (fun c j z => hF.2.1 _ _ (by omega)) hF.2.2, h.2.2⟩
theorem NB.fr {m' : Me} {e d : Nat} {N B : Nat → Option Nat} (h : NB m r e N B) (hF : Frw d m m') : NB m' r e N B := h.cg (fun b k z => hF.2.1 _ _ (by omega))
theorem wp5 (hO : KO r s) {e i d : Nat} {is : List Nat} (hd : d < is.length) (hid : is.getD d 0 = i) (hl : r (64 + i) ≤ (zWs r s i).length) {N B : Nat → Option Nat} : ∀ j p n a (m : Me), Wdh m t r s e is → NB m r e N B → p + j = npl r s i → j < n → a ≤ 33 → (∀ q, q < p → m.1 101 (d * 30 + q) = cvI (cso r s N i q)) → ∃ m', fX3_weighPlaces_5 n (nI d) (nI a) (nI p) m = some (nI (wmF r s N i p j a), m') ∧ Frw d m m' ∧ (∀ q, q < npl r s i → m'.1 101 (d * 30 + q) = cvI (cso r s N i q)) := by
  intro j
  induction j with
  | zero =>
    intro p n a m h hN hp hn ha hq
    obtain ⟨n, rfl⟩ : ∃ n', n = n' + 1 := ⟨n - 1, by omega⟩
    have h4 := h.2.2.1
    have hw := h.gw hd hid
    have hL := (zWs_ok hO hw.1).1
    have lp := lpl_e hO hw (by omega) hl
    refine ⟨m, ?_, Frw.rf d m, fun q x => hq q (by omega)⟩
    unfold npl at hp
    rw [fX3_weighPlaces_5, wmF]
    simp (disch := omega) only [lp, cl2_so, cl1_so, ck_tr, zl_0, zl_1, zl_2, zl_3, zl_4, zl_5, zl_6, zl_7, zl_8, zl_9, zl_10, zl_11, zl_12, zl_15, zl_16, zl_20, zl_24, zl_25, zl_30, zl_31, zl_32, zl_33, zl_44, zl_48, zl_50, zl_57, zl_59, zl_60, zl_61, zl_62, zl_63, zl_64, zl_68, zl_97, zl_99, zl_100, zl_104, zl_108, zl_114, zl_120, zl_122, zl_126, zl_132, zl_180, zl_181, zl_186, zl_255, zl_900, zl_930, zl_1000, zl_1000000, nI_add, pk_mul, zs_sub, zs_lt, zs_le, zs_eq, zs_inb, zs_cl, zm_eq, zm_eq2, zm_lt, zm_le, mz_lt, mz_le, mm_eq, zs_bit, zs_or1, zs_div, zs_rem, ck_pos, if_pos, if_neg, true_or, or_true, true_and, and_true, false_or, or_false, false_and, and_false, not_true, not_false_iff, if_true, if_false, eq_self, Bool.false_eq_true, cl2_id, Bool.not_true, Bool.not_false]
  | succ j ih =>
    intro p n a m h hN hp hn ha hq
    obtain ⟨n, rfl⟩ : ∃ n', n = n' + 1 := ⟨n - 1, by omega⟩
    have h4 := h.2.2.1
    have hw := h.gw hd hid
    have hL := (zWs_ok hO hw.1).1
    have lp := lpl_e hO hw (by omega) hl
    have hpn : p < npl r s i := by omega
    have h30 := npl_30 hO hw.1
    have o8 := (hO.1.i hw.1).2.2.1
    have e1 := cfr_e hO hd hid (npl_at hpn) h hN
    have hlt : ¬ (zWs r s i).length - r (64 + i) < p := by unfold npl at hpn; omega
    have p1 : Frw d m (setI m 101 (d * 30 + p) (cvI (cso r s N i p))) := (Frw.rf d m).s1 (by omega) _
    have hq1 : ∀ q, q < p + 1 → (setI m 101 (d * 30 + p) (cvI (cso r s N i p))).1 101 (d * 30 + q) = cvI (cso r s N i q) := fun q x => by
      by_cases z : q = p
      · subst z; exact sI_eq _ _ _ _
      · rw [sI_nj (by omega)]; exact hq q (by omega)
    rw [fX3_weighPlaces_5, wmF]
    unfold fX3_weighPlaces_48
    cases hc : cso r s N i p with
    | none =>
      rw [hc] at e1 p1 hq1
      simp only [cvI] at e1 p1 hq1
      simp only
      obtain ⟨m2, g1, g2, g3⟩ := ih (p + 1) n a _ (h.fr hO p1) (hN.fr p1) (by omega) (by omega) ha hq1
      refine ⟨m2, ?_, p1.tr g2, g3⟩
      simp (disch := omega) only [lp, hlt, e1, cl2_so, cl1_so, ck_tr, zl_0, zl_1, zl_2, zl_3, zl_4, zl_5, zl_6, zl_7, zl_8, zl_9, zl_10, zl_11, zl_12, zl_15, zl_16, zl_20, zl_24, zl_25, zl_30, zl_31, zl_32, zl_33, zl_44, zl_48, zl_50, zl_57, zl_59, zl_60, zl_61, zl_62, zl_63, zl_64, zl_68, zl_97, zl_99, zl_100, zl_104, zl_108, zl_114, zl_120, zl_122, zl_126, zl_132, zl_180, zl_181, zl_186, zl_255, zl_900, zl_930, zl_1000, zl_1000000, nI_add, pk_mul, zs_sub, zs_lt, zs_le, zs_eq, zs_inb, zs_cl, zm_eq, zm_eq2, zm_lt, zm_le, mz_lt, mz_le, mm_eq, zs_bit, zs_or1, zs_div, zs_rem, ck_pos, if_pos, if_neg, true_or, or_true, true_and, and_true, false_or, or_false, false_and, and_false, not_true, not_false_iff, if_true, if_false, eq_self, Bool.false_eq_true, cl2_id, Bool.not_true, Bool.not_false]
      exact g1
    | some x =>
      obtain ⟨cp, hx⟩ := cso_s hO hw.1 hpn hc
      have x8 : x ≤ 8 := by rw [hx]; exact dl_8 hO hw.1 (npl_at hpn) o8 cp
      rw [hc] at e1 p1 hq1
      simp only [cvI] at e1 p1 hq1
      simp only
      by_cases hv : x < a
      · rw [if_pos hv]
        obtain ⟨m2, g1, g2, g3⟩ := ih (p + 1) n x _ (h.fr hO p1) (hN.fr p1) (by omega) (by omega) (by omega) hq1
        refine ⟨m2, ?_, p1.tr g2, g3⟩
        simp (disch := omega) only [lp, hlt, e1, hv, cl2_so, cl1_so, ck_tr, zl_0, zl_1, zl_2, zl_3, zl_4, zl_5, zl_6, zl_7, zl_8, zl_9, zl_10, zl_11, zl_12, zl_15, zl_16, zl_20, zl_24, zl_25, zl_30, zl_31, zl_32, zl_33, zl_44, zl_48, zl_50, zl_57, zl_59, zl_60, zl_61, zl_62, zl_63, zl_64, zl_68, zl_97, zl_99, zl_100, zl_104, zl_108, zl_114, zl_120, zl_122, zl_126, zl_132, zl_180, zl_181, zl_186, zl_255, zl_900, zl_930, zl_1000, zl_1000000, nI_add, pk_mul, zs_sub, zs_lt, zs_le, zs_eq, zs_inb, zs_cl, zm_eq, zm_eq2, zm_lt, zm_le, mz_lt, mz_le, mm_eq, zs_bit, zs_or1, zs_div, zs_rem, ck_pos, if_pos, if_neg, true_or, or_true, true_and, and_true, false_or, or_false, false_and, and_false, not_true, not_false_iff, if_true, if_false, eq_self, Bool.false_eq_true, cl2_id, Bool.not_true, Bool.not_false]
        exact g1
      · rw [if_neg hv]
        obtain ⟨m2, g1, g2, g3⟩ := ih (p + 1) n a _ (h.fr hO p1) (hN.fr p1) (by omega) (by omega) ha hq1
        refine ⟨m2, ?_, p1.tr g2, g3⟩
        simp (disch := omega) only [lp, hlt, e1, hv, cl2_so, cl1_so, ck_tr, zl_0, zl_1, zl_2, zl_3, zl_4, zl_5, zl_6, zl_7, zl_8, zl_9, zl_10, zl_11, zl_12, zl_15, zl_16, zl_20, zl_24, zl_25, zl_30, zl_31, zl_32, zl_33, zl_44, zl_48, zl_50, zl_57, zl_59, zl_60, zl_61, zl_62, zl_63, zl_64, zl_68, zl_97, zl_99, zl_100, zl_104, zl_108, zl_114, zl_120, zl_122, zl_126, zl_132, zl_180, zl_181, zl_186, zl_255, zl_900, zl_930, zl_1000, zl_1000000, nI_add, pk_mul, zs_sub, zs_lt, zs_le, zs_eq, zs_inb, zs_cl, zm_eq, zm_eq2, zm_lt, zm_le, mz_lt, mz_le, mm_eq, zs_bit, zs_or1, zs_div, zs_rem, ck_pos, if_pos, if_neg, true_or, or_true, true_and, and_true, false_or, or_false, false_and, and_false, not_true, not_false_iff, if_true, if_false, eq_self, Bool.false_eq_true, cl2_id, Bool.not_true, Bool.not_false]
        exact g1
theorem wp_e (hO : KO r s) {e i d : Nat} {is : List Nat} (hd : d < is.length) (hid : is.getD d 0 = i) (hl : r (64 + i) ≤ (zWs r s i).length) {N B : Nat → Option Nat} (h : Wdh m t r s e is) (hN : NB m r e N B) : ∃ m', fX3_weighPlaces (nI d) m = some (nI (wmA r s N i), m') ∧ Frw d m m' ∧ (∀ q, q < npl r s i → m'.1 101 (d * 30 + q) = cvI (cso r s N i q)) := by
  have h30 := npl_30 hO (h.gw hd hid).1
  exact wp5 (t := t) hO hd hid hl (npl r s i) 0 FU 33 m h hN (by omega) (FU_pos (by omega)) (by omega) (fun q x => by omega)
theorem nI_ss (a b c : Nat) : nI a - nI b - nI c = nI a - nI (b + c) := by
  rw [← nI_add, Int32.sub_eq_add_neg, Int32.sub_eq_add_neg, Int32.sub_eq_add_neg, Int32.neg_add, Int32.sub_eq_add_neg, Int32.add_assoc]
theorem nI_mx {a b : Nat} (ha : a < 1000) (hb : b < 1000) : (if nI 0 < nI a - nI b then nI a - nI b else nI 0) = nI (a - b) := by
  by_cases q : b ≤ a
  · rw [zs_sub q]
    by_cases z : 0 < a - b
    · rw [if_pos ((zs_lt (by omega) (by omega)).mpr z)]
    · rw [if_neg (fun y => z ((zs_lt (by omega) (by omega)).mp y)), show a - b = 0 by omega]
  · have hneg : nI a - nI b < nI 0 := pk_sneg (by omega) (by omega)
    rw [if_neg (fun y => Int32.lt_irrefl (Int32.lt_trans y hneg)), show a - b = 0 by omega]
theorem SV.fr {m' : Me} {is : List Nat} {k d : Nat} (h : SV m r s is k) (hF : Frw d m m') : SV m' r s is k := fun a w x y z => (hF.2.1 _ _ (by omega)).trans (h a w x y z)
theorem lb18 (hO : KO r s) {e : Nat} {is : List Nat} (h : Sd r e is) (hS : SV m r s is is.length) {w a : Nat} (hw : w < is.length) (ha : a ≤ 33) : ∀ j i n b, i + j = w → j < n → b ≤ 8 * i → fX3_leastBeside_18 n (nI w) (nI a - nI b) (nI i) m = some (nI (a - (b + ssm r s is w i j)), m) := by
  have h4 := h.1
  have hwi := h.2 w hw
  have w8 := (hO.1.i hwi.1).2.2.1
  intro j
  induction j with
  | zero =>
    intro i n b hi hn hb
    obtain ⟨n, rfl⟩ : ∃ n', n = n' + 1 := ⟨n - 1, by omega⟩
    rw [fX3_leastBeside_18, ssm, Nat.add_zero]
    have e1 := nI_mx (a := a) (b := b) (by omega) (by omega)
    rw [if_pos ((zs_le (by omega) (by omega)).mpr (by omega))]
    rw [zl_0]
    rw [e1]
  | succ j ih =>
    intro i n b hi hn hb
    obtain ⟨n, rfl⟩ : ∃ n', n = n' + 1 := ⟨n - 1, by omega⟩
    have e1 := hS i w (by omega) (by omega) hw
    have s8 := sav_8 hO (i := is.getD i 0) hwi.1 w8
    have g := ih (i + 1) n (b + sav r s (is.getD i 0) (is.getD w 0)) (by omega) (by omega) (by omega)
    rw [fX3_leastBeside_18, ssm, ← Nat.add_assoc, ← g, ← nI_ss]
    simp (disch := omega) only [e1, cl2_so, cl1_so, ck_tr, zl_0, zl_1, zl_2, zl_3, zl_4, zl_5, zl_6, zl_7, zl_8, zl_9, zl_10, zl_11, zl_12, zl_15, zl_16, zl_20, zl_24, zl_25, zl_30, zl_31, zl_32, zl_33, zl_44, zl_48, zl_50, zl_57, zl_59, zl_60, zl_61, zl_62, zl_63, zl_64, zl_68, zl_97, zl_99, zl_100, zl_104, zl_108, zl_114, zl_120, zl_122, zl_126, zl_132, zl_180, zl_181, zl_186, zl_255, zl_900, zl_930, zl_1000, zl_1000000, nI_add, pk_mul, zs_sub, zs_lt, zs_le, zs_eq, zs_inb, zs_cl, zm_eq, zm_eq2, zm_lt, zm_le, mz_lt, mz_le, mm_eq, zs_bit, zs_or1, zs_div, zs_rem, ck_pos, if_pos, if_neg, true_or, or_true, true_and, and_true, false_or, or_false, false_and, and_false, not_true, not_false_iff, if_true, if_false, eq_self, Bool.false_eq_true, cl2_id, Bool.not_true, Bool.not_false]
theorem lb_e (hO : KO r s) {e d w : Nat} {is : List Nat} (hP : Hp r s is) (hdw : d < w) (hw : w < is.length) {N B : Nat → Option Nat} (h : Wdh m t r s e is) (hN : NB m r e N B) (hS : SV m r s is is.length) : ∃ m', fX3_leastBeside (nI d) (nI w) m = some (nI (lbb r s is N d w), m') ∧ Frw w m m' := by
  have h4 := h.2.2.1
  obtain ⟨m1, f1, f2, f3⟩ := wp_e (t := t) hO hw rfl (hP w hw) h hN
  have w33 := wmA_33 (r := r) (s := s) (N := N) (i := is.getD w 0)
  refine ⟨m1, ?_, f2⟩
  unfold fX3_leastBeside lbb
  by_cases q : wmA r s N (is.getD w 0) = 33
  · rw [if_pos q]
    rw [q] at f1
    simp (disch := omega) only [f1, cl2_so, cl1_so, ck_tr, zl_0, zl_1, zl_2, zl_3, zl_4, zl_5, zl_6, zl_7, zl_8, zl_9, zl_10, zl_11, zl_12, zl_15, zl_16, zl_20, zl_24, zl_25, zl_30, zl_31, zl_32, zl_33, zl_44, zl_48, zl_50, zl_57, zl_59, zl_60, zl_61, zl_62, zl_63, zl_64, zl_68, zl_97, zl_99, zl_100, zl_104, zl_108, zl_114, zl_120, zl_122, zl_126, zl_132, zl_180, zl_181, zl_186, zl_255, zl_900, zl_930, zl_1000, zl_1000000, nI_add, pk_mul, zs_sub, zs_lt, zs_le, zs_eq, zs_inb, zs_cl, zm_eq, zm_eq2, zm_lt, zm_le, mz_lt, mz_le, mm_eq, zs_bit, zs_or1, zs_div, zs_rem, ck_pos, if_pos, if_neg, true_or, or_true, true_and, and_true, false_or, or_false, false_and, and_false, not_true, not_false_iff, if_true, if_false, eq_self, Bool.false_eq_true, cl2_id, Bool.not_true, Bool.not_false]
  · rw [if_neg q]
    have e1 := lb18 hO h.2.2 (hS.fr f2) hw w33 (w - d) d FU 0 (by omega) (FU_pos (by omega)) (by omega)
    rw [Nat.zero_add, zs_sub (Nat.zero_le _), Nat.sub_zero] at e1
    simp (disch := omega) only [f1, q, cl2_so, cl1_so, ck_tr, zl_0, zl_1, zl_2, zl_3, zl_4, zl_5, zl_6, zl_7, zl_8, zl_9, zl_10, zl_11, zl_12, zl_15, zl_16, zl_20, zl_24, zl_25, zl_30, zl_31, zl_32, zl_33, zl_44, zl_48, zl_50, zl_57, zl_59, zl_60, zl_61, zl_62, zl_63, zl_64, zl_68, zl_97, zl_99, zl_100, zl_104, zl_108, zl_114, zl_120, zl_122, zl_126, zl_132, zl_180, zl_181, zl_186, zl_255, zl_900, zl_930, zl_1000, zl_1000000, nI_add, pk_mul, zs_sub, zs_lt, zs_le, zs_eq, zs_inb, zs_cl, zm_eq, zm_eq2, zm_lt, zm_le, mz_lt, mz_le, mm_eq, zs_bit, zs_or1, zs_div, zs_rem, ck_pos, if_pos, if_neg, true_or, or_true, true_and, and_true, false_or, or_false, false_and, and_false, not_true, not_false_iff, if_true, if_false, eq_self, Bool.false_eq_true, cl2_id, Bool.not_true, Bool.not_false]
    exact e1
theorem tp33 (hO : KO r s) {e d : Nat} {is : List Nat} (hP : Hp r s is) {N B : Nat → Option Nat} {rec : Int32 → Int32 → Me → Option Me} : ∀ j w n acc (m : Me), Wdh m t r s e is → NB m r e N B → SV m r s is is.length → d < w → w + j = is.length → j < n → acc ≤ 33 * w → ∃ m', fX3_tryPlaces_33 rec n (nI d) x2 (nI acc) (nI w) m = (cl2 (fX3_weighPlaces (nI d) m') fun _ m7 => fX3_tryPlaces_67 rec FU (nI d) x2 (nI (acc + lsm r s is N d w j)) (nI 0) m7) ∧ Frw d m m' := by
  intro j
  induction j with
  | zero =>
    intro w n acc m h hN hS hdw hw hn hacc
    obtain ⟨n, rfl⟩ : ∃ n', n = n' + 1 := ⟨n - 1, by omega⟩
    have h4 := h.2.2.1
    have c2 := h.2.1.1
    refine ⟨m, ?_, Frw.rf d m⟩
    rw [fX3_tryPlaces_33, lsm, Nat.add_zero]
    simp (disch := omega) only [c2, cl2_so, cl1_so, ck_tr, zl_0, zl_1, zl_2, zl_3, zl_4, zl_5, zl_6, zl_7, zl_8, zl_9, zl_10, zl_11, zl_12, zl_15, zl_16, zl_20, zl_24, zl_25, zl_30, zl_31, zl_32, zl_33, zl_44, zl_48, zl_50, zl_57, zl_59, zl_60, zl_61, zl_62, zl_63, zl_64, zl_68, zl_97, zl_99, zl_100, zl_104, zl_108, zl_114, zl_120, zl_122, zl_126, zl_132, zl_180, zl_181, zl_186, zl_255, zl_900, zl_930, zl_1000, zl_1000000, nI_add, pk_mul, zs_sub, zs_lt, zs_le, zs_eq, zs_inb, zs_cl, zm_eq, zm_eq2, zm_lt, zm_le, mz_lt, mz_le, mm_eq, zs_bit, zs_or1, zs_div, zs_rem, ck_pos, if_pos, if_neg, true_or, or_true, true_and, and_true, false_or, or_false, false_and, and_false, not_true, not_false_iff, if_true, if_false, eq_self, Bool.false_eq_true, cl2_id, Bool.not_true, Bool.not_false]
  | succ j ih =>
    intro w n acc m h hN hS hdw hw hn hacc
    obtain ⟨n, rfl⟩ : ∃ n', n = n' + 1 := ⟨n - 1, by omega⟩
    have h4 := h.2.2.1
    have c2 := h.2.1.1
    obtain ⟨m1, f1, f2⟩ := lb_e (t := t) hO hP hdw (by omega) h hN hS
    have l33 := lbb_33 (r := r) (s := s) (is := is) (N := N) (d := d) (w := w)
    obtain ⟨m2, g1, g2⟩ := ih (w + 1) n (acc + lbb r s is N d w) m1 (h.fr hO f2) (hN.fr f2) (hS.fr f2) (by omega) (by omega) (by omega) (by omega)
    refine ⟨m2, ?_, (f2.mono (by omega)).tr g2⟩
    rw [fX3_tryPlaces_33, lsm, ← Nat.add_assoc, ← g1]
    simp (disch := omega) only [c2, f1, cl2_so, cl1_so, ck_tr, zl_0, zl_1, zl_2, zl_3, zl_4, zl_5, zl_6, zl_7, zl_8, zl_9, zl_10, zl_11, zl_12, zl_15, zl_16, zl_20, zl_24, zl_25, zl_30, zl_31, zl_32, zl_33, zl_44, zl_48, zl_50, zl_57, zl_59, zl_60, zl_61, zl_62, zl_63, zl_64, zl_68, zl_97, zl_99, zl_100, zl_104, zl_108, zl_114, zl_120, zl_122, zl_126, zl_132, zl_180, zl_181, zl_186, zl_255, zl_900, zl_930, zl_1000, zl_1000000, nI_add, pk_mul, zs_sub, zs_lt, zs_le, zs_eq, zs_inb, zs_cl, zm_eq, zm_eq2, zm_lt, zm_le, mz_lt, mz_le, mm_eq, zs_bit, zs_or1, zs_div, zs_rem, ck_pos, if_pos, if_neg, true_or, or_true, true_and, and_true, false_or, or_false, false_and, and_false, not_true, not_false_iff, if_true, if_false, eq_self, Bool.false_eq_true, cl2_id, Bool.not_true, Bool.not_false]
end MA5
