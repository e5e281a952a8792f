/-! mendAll: the class's search, and both -/
section MA6
variable {m : Me} {H : Bool} {t : Nat} {r s : Nat → Nat} {x1 x2 x3 x4 : Int32}
def Fc (m m' : Me) : Prop := Ak sC m m' ∧ (∀ b k, b ≠ 99 → b ≠ 100 → b ≠ 101 → ¬ (b = 96 ∧ k = 7) → m'.1 b k = m.1 b k) ∧ m'.2 = m.2
theorem Fc.rf (m : Me) : Fc m m := ⟨Ak.rf m, fun _ _ _ _ _ _ => rfl, rfl⟩
theorem Fc.tr {m m' m'' : Me} (h : Fc m m') (h' : Fc m' m'') : Fc m m'' := ⟨h.1.tr h'.1, fun b k a c d e => (h'.2.1 b k a c d e).trans (h.2.1 b k a c d e), h'.2.2.trans h.2.2⟩
theorem Fk.fc {m m' : Me} (h : Fk m m') : Fc m m' := ⟨h.1, fun b k a c _ _ => h.2.1 b k a c, h.2.2⟩
theorem Frw.fc {d : Nat} {m m' : Me} (h : Frw d m m') : Fc m m' := ⟨h.1, fun b k _ _ c _ => h.2.1 b k (fun z => c z.1), h.2.2⟩
theorem Fc.sl {m m' : Me} (h : Fc m m') (x : Int32) : Fc m (setI m' 96 7 x) := ⟨h.1.set x (sC_in (by omega) 7), fun b k a c d e => (if_neg e).trans (h.2.1 b k a c d e), h.2.2⟩
theorem Wdh.fc {m' : Me} {e : Nat} {is : List Nat} (h : Wdh m t r s e is) (hO : KO r s) (hF : Fc m m') : Wdh m' t r s e is := ⟨h.1.ag hO hF.1.agC, h.2.1.cg (fun c j z => hF.2.1 _ _ (by omega) (by omega) (by omega) (by omega)) hF.2.2, h.2.2⟩
theorem SV.fc {m' : Me} {is : List Nat} {k : Nat} (h : SV m r s is k) (hF : Fc m m') : SV m' r s is k := fun a w x y z => (hF.2.1 _ _ (by omega) (by omega) (by omega) (by omega)).trans (h a w x y z)
def Wsh (m : Me) (t : Nat) (r s : Nat → Nat) (e : Nat) (is : List Nat) : Prop := Wdh m t r s e is ∧ SV m r s is is.length
theorem Wsh.fc {m' : Me} {e : Nat} {is : List Nat} (h : Wsh m t r s e is) (hO : KO r s) (hF : Fc m m') : Wsh m' t r s e is := ⟨h.1.fc hO hF, h.2.fc hF⟩
/-- what a search from a depth on finds: the fewest of what it had and of all that stand behind -/
def GoC (t : Nat) (r s : Nat → Nat) (e : Nat) (is : List Nat) (d : Nat) (rec : Int32 → Int32 → Me → Option Me) : Prop := ∀ F N B (m : Me), Wsh m t r s e is → NB m r e N B → (∀ x, x < 30 → vx r x → ∀ q, B x = some q → q < d) → tot s N ≤ 8 * d → F ≤ 33 → m.1 96 7 = nI F → ∃ m' F', rec (nI d) (nI (tot s N)) m = some m' ∧ Fc m m' ∧ (∀ k, k < d * 30 → m'.1 101 k = m.1 101 k) ∧ NB m' r e N B ∧ m'.1 96 7 = nI F' ∧ F' ≤ F ∧ (∀ N', Ch r s (is.drop d) N N' → F' ≤ tot s N') ∧ (F' = F ∨ ∃ N', Ch r s (is.drop d) N N' ∧ F' = tot s N')
/-- the PLACES that are done -/
def Dn (r s : Nat → Nat) (is : List Nat) (d i : Nat) (N : Nat → Option Nat) (F more pl : Nat) : Prop := ∀ q x, q < npl r s i → cso r s N i q = some x → (x < more ∨ x = more ∧ q < pl) → ∀ N', Ch r s (is.drop (d + 1)) (ovl N (PLc r s i q)) N' → F ≤ tot s N'
def Fdn (r s : Nat → Nat) (is : List Nat) (d i : Nat) (N : Nat → Option Nat) (F F' : Nat) : Prop := F' ≤ F ∧ (F' = F ∨ ∃ N', Ch r s (is.drop d) N N' ∧ F' = tot s N')
theorem Fdn.rf {is : List Nat} {d i : Nat} {N : Nat → Option Nat} {F : Nat} : Fdn r s is d i N F F := ⟨Nat.le_refl _, Or.inl rfl⟩
theorem Fdn.tr {is : List Nat} {d i : Nat} {N : Nat → Option Nat} {F F' F'' : Nat} (h : Fdn r s is d i N F F') (h' : Fdn r s is d i N F' F'') : Fdn r s is d i N F F'' := by
  refine ⟨Nat.le_trans h'.1 h.1, ?_⟩
  rcases h'.2 with z | z
  · rw [z]; exact h.2
  · exact Or.inr z
theorem Dn.le {is : List Nat} {d i : Nat} {N : Nat → Option Nat} {F F' more pl : Nat} (h : Dn r s is d i N F more pl) (hl : F' ≤ F) : Dn r s is d i N F' more pl := fun q x a b c N' z => Nat.le_trans hl (h q x a b c N' z)
/-- all that is left out costs more -/
theorem Dn.cut (hO : KO r s) {e d i F more pl more' pl' : Nat} {is : List Nat} (hSd : Sd r e is) (hd : d < is.length) (hid : is.getD d 0 = i) {N : Nat → Option Nat} (h : Dn r s is d i N F more pl) (hF : F ≤ tot s N + lsm r s is N d (d + 1) (is.length - (d + 1)) + more) : Dn r s is d i N F more' pl' := by
  intro q x hq hc _ N' hN'
  have hi := (hSd.2 d hd).1
  rw [hid] at hi
  by_cases hx : x < more
  · exact h q x hq hc (Or.inl hx) N' hN'
  · obtain ⟨cp, ex⟩ := cso_s hO hi hq hc
    have hb : Bh r s is N (ovl N (PLc r s (is.getD d 0) q)) d (d + 1) := Bh.rf.step hO (fun d hd => (hSd.2 d hd).1) (Nat.le_refl _) (by rw [hid]; exact hq) (by rw [hid]; exact cp)
    rw [hid] at hb
    have g := ch_lb hO (fun d hd => (hSd.2 d hd).1) (fun d hd => (hO.1.i (hSd.2 d hd).1).2.2.1) (is.length - (d + 1)) (d + 1) _ N' (by omega) (by omega) hb hN'
    have := tot_ovl s N (PLc r s i q)
    omega
theorem tp88 (hO : KO r s) {e i d : Nat} {is : List Nat} (hP : Hp r s is) (hd : d < is.length) (hid : is.getD d 0 = i) {rec : Int32 → Int32 → Me → Option Me} (hrec : GoC t r s e is (d + 1) rec) {N B : Nat → Option Nat} (hB : ∀ x, x < 30 → vx r x → ∀ q, B x = some q → q < d) (hsp : tot s N ≤ 8 * d) {more : Nat} (hm : more ≤ 8) {k67 : Int32 → Int32 → Int32 → Int32 → Me → Option Me} : ∀ j p n F (m : Me), Wsh m t r s e is → NB m r e N B → F ≤ 33 → m.1 96 7 = nI F → (∀ q, q < npl r s i → m.1 101 (d * 30 + q) = cvI (cso r s N i q)) → Dn r s is d i N F more p → p + j = npl r s i → j < n → ∃ m' F', fX3_tryPlaces_88 rec n k67 (nI d) (nI (tot s N)) (nI (tot s N + lsm r s is N d (d + 1) (is.length - (d + 1)))) (nI more) (nI p) m = k67 (nI d) (nI (tot s N)) (nI (tot s N + lsm r s is N d (d + 1) (is.length - (d + 1)))) (nI (more + 1)) m' ∧ Fc m m' ∧ (∀ k, k < (d + 1) * 30 → m'.1 101 k = m.1 101 k) ∧ NB m' r e N B ∧ m'.1 96 7 = nI F' ∧ Fdn r s is d i N F F' ∧ Dn r s is d i N F' (more + 1) 0 := by
  have hlsm := lsm_le (r := r) (s := s) (is := is) (N := N) (d := d) (is.length - (d + 1)) (d + 1)
  intro j
  induction j with
  | zero =>
    intro p n F m h hN hF hf hC hD hp hn
    obtain ⟨n, rfl⟩ : ∃ n', n = n' + 1 := ⟨n - 1, by omega⟩
    have h4 := h.1.2.2.1
    have hw := h.1.gw hd hid
    have hL := (zWs_ok hO hw.1).1
    have hl := hP d hd
    rw [hid] at hl
    have lp := lpl_e hO hw (by omega) hl
    have h30 := npl_30 hO hw.1
    have hlt : (zWs r s i).length - r (64 + i) < p := by unfold npl at hp; omega
    refine ⟨m, F, ?_, Fc.rf m, fun _ _ => rfl, hN, hf, Fdn.rf, fun q x a b c => hD q x a b (by omega)⟩
    rw [fX3_tryPlaces_88]
    unfold fX3_tryPlaces_157
    simp (disch := omega) only [lp, hlt, cl2_so, cl1_so, ck_tr, zl_0, zl_1, zl_2, zl_3, zl_4, zl_5, zl_6, zl_7, zl_8, zl_9, zl_10, zl_11, zl_12, zl_15, zl_16, zl_20, zl_24, zl_25, zl_30, zl_31, zl_32, zl_33, zl_44, zl_48, zl_50, zl_57, zl_59, zl_60, zl_61, zl_62, zl_63, zl_64, zl_68, zl_97, zl_99, zl_100, zl_104, zl_108, zl_114, zl_120, zl_122, zl_126, zl_132, zl_180, zl_181, zl_186, zl_255, zl_900, zl_930, zl_1000, zl_1000000, nI_add, pk_mul, zs_sub, zs_lt, zs_le, zs_eq, zs_inb, zs_cl, zm_eq, zm_eq2, zm_lt, zm_le, mz_lt, mz_le, mm_eq, zs_bit, zs_or1, zs_div, zs_rem, ck_pos, if_pos, if_neg, true_or, or_true, true_and, and_true, false_or, or_false, false_and, and_false, not_true, not_false_iff, if_true, if_false, eq_self, Bool.false_eq_true, cl2_id, Bool.not_true, Bool.not_false]
  | succ j ih =>
    intro p n F m h hN hF hf hC hD hp hn
    obtain ⟨n, rfl⟩ : ∃ n', n = n' + 1 := ⟨n - 1, by omega⟩
    have h4 := h.1.2.2.1
    have hw := h.1.gw hd hid
    have hL := (zWs_ok hO hw.1).1
    have hl := hP d hd
    rw [hid] at hl
    have lp := lpl_e hO hw (by omega) hl
    have hpn : p < npl r s i := by omega
    have h30 := npl_30 hO hw.1
    have hlt : ¬ (zWs r s i).length - r (64 + i) < p := by unfold npl at hpn; omega
    have hC0 := hC p hpn
    rw [fX3_tryPlaces_88]
    unfold fX3_tryPlaces_157 fX3_tryPlaces_151
    by_cases hbr : F ≤ tot s N + lsm r s is N d (d + 1) (is.length - (d + 1)) + more
    · refine ⟨m, F, ?_, Fc.rf m, fun _ _ => rfl, hN, hf, Fdn.rf, hD.cut hO h.1.2.2 hd hid hbr⟩
      simp (disch := omega) only [lp, hlt, hf, hbr, cl2_so, cl1_so, ck_tr, zl_0, zl_1, zl_2, zl_3, zl_4, zl_5, zl_6, zl_7, zl_8, zl_9, zl_10, zl_11, zl_12, zl_15, zl_16, zl_20, zl_24, zl_25, zl_30, zl_31, zl_32, zl_33, zl_44, zl_48, zl_50, zl_57, zl_59, zl_60, zl_61, zl_62, zl_63, zl_64, zl_68, zl_97, zl_99, zl_100, zl_104, zl_108, zl_114, zl_120, zl_122, zl_126, zl_132, zl_180, zl_181, zl_186, zl_255, zl_900, zl_930, zl_1000, zl_1000000, nI_add, pk_mul, zs_sub, zs_lt, zs_le, zs_eq, zs_inb, zs_cl, zm_eq, zm_eq2, zm_lt, zm_le, mz_lt, mz_le, mm_eq, zs_bit, zs_or1, zs_div, zs_rem, ck_pos, if_pos, if_neg, true_or, or_true, true_and, and_true, false_or, or_false, false_and, and_false, not_true, not_false_iff, if_true, if_false, eq_self, Bool.false_eq_true, cl2_id, Bool.not_true, Bool.not_false]
    · cases hc : cso r s N i p with
      | none =>
        rw [hc] at hC0
        simp only [cvI] at hC0
        obtain ⟨m2, F2, g1, g2⟩ := ih (p + 1) n F m h hN hF hf hC (fun q x a b c => hD q x a b (by
          rcases c with c | ⟨c1, c2⟩
          · exact Or.inl c
          · by_cases z : q = p
            · rw [z, hc] at b; cases b
            · exact Or.inr ⟨c1, by omega⟩)) (by omega) (by omega)
        refine ⟨m2, F2, ?_, g2⟩
        simp (disch := omega) only [lp, hlt, hf, hbr, hC0, cl2_so, cl1_so, ck_tr, zl_0, zl_1, zl_2, zl_3, zl_4, zl_5, zl_6, zl_7, zl_8, zl_9, zl_10, zl_11, zl_12, zl_15, zl_16, zl_20, zl_24, zl_25, zl_30, zl_31, zl_32, zl_33, zl_44, zl_48, zl_50, zl_57, zl_59, zl_60, zl_61, zl_62, zl_63, zl_64, zl_68, zl_97, zl_99, zl_100, zl_104, zl_108, zl_114, zl_120, zl_122, zl_126, zl_132, zl_180, zl_181, zl_186, zl_255, zl_900, zl_930, zl_1000, zl_1000000, nI_add, pk_mul, zs_sub, zs_lt, zs_le, zs_eq, zs_inb, zs_cl, zm_eq, zm_eq2, zm_lt, zm_le, mz_lt, mz_le, mm_eq, zs_bit, zs_or1, zs_div, zs_rem, ck_pos, if_pos, if_neg, true_or, or_true, true_and, and_true, false_or, or_false, false_and, and_false, not_true, not_false_iff, if_true, if_false, eq_self, Bool.false_eq_true, cl2_id, Bool.not_true, Bool.not_false]
        exact g1
      | some x =>
        rw [hc] at hC0
        simp only [cvI] at hC0
        obtain ⟨cp, ex⟩ := cso_s hO hw.1 hpn hc
        have o8 := (hO.1.i hw.1).2.2.1
        have x8 : x ≤ 8 := by rw [ex]; exact dl_8 hO hw.1 (npl_at hpn) o8 cp
        by_cases hx : x = more
        · have et := tot_ovl s N (PLc r s i p)
          obtain ⟨m1, B1, f1, f2, f3, f4, f5⟩ := claim_e hO hd hid (npl_at hpn) h.1 hN hB
          have h1 := h.fc hO f2.fc
          obtain ⟨m2, F2, g1, g2, g3, g4, g5, g6, g7, g8⟩ := hrec F (ovl N (PLc r s i p)) B1 m1 h1 f3 f4 (by omega) hF ((f2.2.1 _ _ (by decide) (by decide)).trans hf)
          have h2 := h1.fc hO g2
          obtain ⟨m3, k1, k2, k3⟩ := f5 m2 h2.1 g4
          have h3 := h2.fc hO k2.fc
          have e101 : ∀ k, k < (d + 1) * 30 → m3.1 101 k = m.1 101 k := fun k hk => ((k2.2.1 _ _ (by decide) (by decide)).trans (g3 k hk)).trans (f2.2.1 _ _ (by decide) (by decide))
          have hd1 : Fdn r s is d i N F F2 := by
            refine ⟨g6, ?_⟩
            rcases g8 with z | ⟨N', z1, z2⟩
            · exact Or.inl z
            · refine Or.inr ⟨N', ?_, z2⟩
              rw [drop_cons hd, hid]
              exact ⟨p, hpn, cp, z1⟩
          obtain ⟨m4, F4, i1, i2, i3, i4, i5, i6, i7⟩ := ih (p + 1) n F2 m3 h3 k3 (by omega) ((k2.2.1 _ _ (by decide) (by decide)).trans g5) (fun q hq => (e101 _ (by omega)).trans (hC q hq)) (fun q y a b c => by
            by_cases z : q = p
            · subst z
              exact g7
            · refine (hD.le g6) q y a b ?_
              omega) (by omega) (by omega)
          refine ⟨m4, F4, ?_, ((f2.fc.tr g2).tr k2.fc).tr i2, fun k hk => (i3 k hk).trans (e101 k hk), i4, i5, hd1.tr i6, i7⟩
          have et2 : tot s N + more = tot s (ovl N (PLc r s i p)) := by omega
          have g1' : rec (nI (d + 1)) (nI (tot s N + more)) m1 = some m2 := by rw [et2]; exact g1
          rw [hx] at hC0
          simp (disch := omega) only [lp, hlt, hf, hbr, hC0, f1, g1', k1, cl2_so, cl1_so, ck_tr, zl_0, zl_1, zl_2, zl_3, zl_4, zl_5, zl_6, zl_7, zl_8, zl_9, zl_10, zl_11, zl_12, zl_15, zl_16, zl_20, zl_24, zl_25, zl_30, zl_31, zl_32, zl_33, zl_44, zl_48, zl_50, zl_57, zl_59, zl_60, zl_61, zl_62, zl_63, zl_64, zl_68, zl_97, zl_99, zl_100, zl_104, zl_108, zl_114, zl_120, zl_122, zl_126, zl_132, zl_180, zl_181, zl_186, zl_255, zl_900, zl_930, zl_1000, zl_1000000, nI_add, pk_mul, zs_sub, zs_lt, zs_le, zs_eq, zs_inb, zs_cl, zm_eq, zm_eq2, zm_lt, zm_le, mz_lt, mz_le, mm_eq, zs_bit, zs_or1, zs_div, zs_rem, ck_pos, if_pos, if_neg, true_or, or_true, true_and, and_true, false_or, or_false, false_and, and_false, not_true, not_false_iff, if_true, if_false, eq_self, Bool.false_eq_true, cl2_id, Bool.not_true, Bool.not_false]
          exact i1
        · obtain ⟨m2, F2, g1, g2⟩ := ih (p + 1) n F m h hN hF hf hC (fun q y a b c => hD q y a b (by
            rcases c with c | ⟨c1, c2⟩
            · exact Or.inl c
            · by_cases z : q = p
              · rw [z, hc] at b
                have := Option.some.inj b
                omega
              · exact Or.inr ⟨c1, by omega⟩)) (by omega) (by omega)
          refine ⟨m2, F2, ?_, g2⟩
          simp (disch := omega) only [lp, hlt, hf, hbr, hC0, hx, cl2_so, cl1_so, ck_tr, zl_0, zl_1, zl_2, zl_3, zl_4, zl_5, zl_6, zl_7, zl_8, zl_9, zl_10, zl_11, zl_12, zl_15, zl_16, zl_20, zl_24, zl_25, zl_30, zl_31, zl_32, zl_33, zl_44, zl_48, zl_50, zl_57, zl_59, zl_60, zl_61, zl_62, zl_63, zl_64, zl_68, zl_97, zl_99, zl_100, zl_104, zl_108, zl_114, zl_120, zl_122, zl_126, zl_132, zl_180, zl_181, zl_186, zl_255, zl_900, zl_930, zl_1000, zl_1000000, nI_add, pk_mul, zs_sub, zs_lt, zs_le, zs_eq, zs_inb, zs_cl, zm_eq, zm_eq2, zm_lt, zm_le, mz_lt, mz_le, mm_eq, zs_bit, zs_or1, zs_div, zs_rem, ck_pos, if_pos, if_neg, true_or, or_true, true_and, and_true, false_or, or_false, false_and, and_false, not_true, not_false_iff, if_true, if_false, eq_self, Bool.false_eq_true, cl2_id, Bool.not_true, Bool.not_false]
          exact g1
theorem tp67 (hO : KO r s) {e i d : Nat} {is : List Nat} (hP : Hp r s is) (hd : d < is.length) (hid : is.getD d 0 = i) {rec : Int32 → Int32 → Me → Option Me} (hrec : GoC t r s e is (d + 1) rec) {N B : Nat → Option Nat} (hB : ∀ x, x < 30 → vx r x → ∀ q, B x = some q → q < d) (hsp : tot s N ≤ 8 * d) : ∀ j more n F (m : Me), Wsh m t r s e is → NB m r e N B → F ≤ 33 → m.1 96 7 = nI F → (∀ q, q < npl r s i → m.1 101 (d * 30 + q) = cvI (cso r s N i q)) → Dn r s is d i N F more 0 → more + j = 9 → j < n → ∃ m' F', fX3_tryPlaces_67 rec n (nI d) (nI (tot s N)) (nI (tot s N + lsm r s is N d (d + 1) (is.length - (d + 1)))) (nI more) m = some m' ∧ Fc m m' ∧ (∀ k, k < (d + 1) * 30 → m'.1 101 k = m.1 101 k) ∧ NB m' r e N B ∧ m'.1 96 7 = nI F' ∧ Fdn r s is d i N F F' ∧ Dn r s is d i N F' 9 0 := by
  have hlsm := lsm_le (r := r) (s := s) (is := is) (N := N) (d := d) (is.length - (d + 1)) (d + 1)
  intro j
  induction j with
  | zero =>
    intro more n F m h hN hF hf hC hD hm hn
    obtain ⟨n, rfl⟩ : ∃ n', n = n' + 1 := ⟨n - 1, by omega⟩
    have : more = 9 := by omega
    subst this
    refine ⟨m, F, ?_, Fc.rf m, fun _ _ => rfl, hN, hf, Fdn.rf, hD⟩
    rw [fX3_tryPlaces_67]
    unfold fX3_tryPlaces_163
    simp (disch := omega) only [cl2_so, cl1_so, ck_tr, zl_0, zl_1, zl_2, zl_3, zl_4, zl_5, zl_6, zl_7, zl_8, zl_9, zl_10, zl_11, zl_12, zl_15, zl_16, zl_20, zl_24, zl_25, zl_30, zl_31, zl_32, zl_33, zl_44, zl_48, zl_50, zl_57, zl_59, zl_60, zl_61, zl_62, zl_63, zl_64, zl_68, zl_97, zl_99, zl_100, zl_104, zl_108, zl_114, zl_120, zl_122, zl_126, zl_132, zl_180, zl_181, zl_186, zl_255, zl_900, zl_930, zl_1000, zl_1000000, nI_add, pk_mul, zs_sub, zs_lt, zs_le, zs_eq, zs_inb, zs_cl, zm_eq, zm_eq2, zm_lt, zm_le, mz_lt, mz_le, mm_eq, zs_bit, zs_or1, zs_div, zs_rem, ck_pos, if_pos, if_neg, true_or, or_true, true_and, and_true, false_or, or_false, false_and, and_false, not_true, not_false_iff, if_true, if_false, eq_self, Bool.false_eq_true, cl2_id, Bool.not_true, Bool.not_false]
  | succ j ih =>
    intro more n F m h hN hF hf hC hD hm hn
    obtain ⟨n, rfl⟩ : ∃ n', n = n' + 1 := ⟨n - 1, by omega⟩
    have h4 := h.1.2.2.1
    have h30 := npl_30 hO (h.1.gw hd hid).1
    rw [fX3_tryPlaces_67]
    unfold fX3_tryPlaces_163
    by_cases hbr : F ≤ tot s N + lsm r s is N d (d + 1) (is.length - (d + 1)) + more
    · refine ⟨m, F, ?_, Fc.rf m, fun _ _ => rfl, hN, hf, Fdn.rf, hD.cut hO h.1.2.2 hd hid hbr⟩
      simp (disch := omega) only [hf, hbr, cl2_so, cl1_so, ck_tr, zl_0, zl_1, zl_2, zl_3, zl_4, zl_5, zl_6, zl_7, zl_8, zl_9, zl_10, zl_11, zl_12, zl_15, zl_16, zl_20, zl_24, zl_25, zl_30, zl_31, zl_32, zl_33, zl_44, zl_48, zl_50, zl_57, zl_59, zl_60, zl_61, zl_62, zl_63, zl_64, zl_68, zl_97, zl_99, zl_100, zl_104, zl_108, zl_114, zl_120, zl_122, zl_126, zl_132, zl_180, zl_181, zl_186, zl_255, zl_900, zl_930, zl_1000, zl_1000000, nI_add, pk_mul, zs_sub, zs_lt, zs_le, zs_eq, zs_inb, zs_cl, zm_eq, zm_eq2, zm_lt, zm_le, mz_lt, mz_le, mm_eq, zs_bit, zs_or1, zs_div, zs_rem, ck_pos, if_pos, if_neg, true_or, or_true, true_and, and_true, false_or, or_false, false_and, and_false, not_true, not_false_iff, if_true, if_false, eq_self, Bool.false_eq_true, cl2_id, Bool.not_true, Bool.not_false]
    · obtain ⟨m1, F1, f1, f2, f3, f4, f5, f6, f7⟩ := tp88 (t := t) hO hP hd hid hrec hB hsp (more := more) (by omega) (k67 := fX3_tryPlaces_67 rec n) (npl r s i) 0 FU F m h hN hF hf hC hD (by omega) (FU_pos (by omega))
      have hF1 := f6.1
      obtain ⟨m2, F2, g1, g2, g3, g4, g5, g6, g7⟩ := ih (more + 1) n F1 m1 (h.fc hO f2) f4 (by omega) f5 (fun q hq => (f3 _ (by omega)).trans (hC q hq)) f7 (by omega) (by omega)
      refine ⟨m2, F2, ?_, f2.tr g2, fun k hk => (g3 k hk).trans (f3 k hk), g4, g5, f6.tr g6, g7⟩
      simp (disch := omega) only [hf, hbr, cl2_so, cl1_so, ck_tr, zl_0, zl_1, zl_2, zl_3, zl_4, zl_5, zl_6, zl_7, zl_8, zl_9, zl_10, zl_11, zl_12, zl_15, zl_16, zl_20, zl_24, zl_25, zl_30, zl_31, zl_32, zl_33, zl_44, zl_48, zl_50, zl_57, zl_59, zl_60, zl_61, zl_62, zl_63, zl_64, zl_68, zl_97, zl_99, zl_100, zl_104, zl_108, zl_114, zl_120, zl_122, zl_126, zl_132, zl_180, zl_181, zl_186, zl_255, zl_900, zl_930, zl_1000, zl_1000000, nI_add, pk_mul, zs_sub, zs_lt, zs_le, zs_eq, zs_inb, zs_cl, zm_eq, zm_eq2, zm_lt, zm_le, mz_lt, mz_le, mm_eq, zs_bit, zs_or1, zs_div, zs_rem, ck_pos, if_pos, if_neg, true_or, or_true, true_and, and_true, false_or, or_false, false_and, and_false, not_true, not_false_iff, if_true, if_false, eq_self, Bool.false_eq_true, cl2_id, Bool.not_true, Bool.not_false]
      rw [f1]
      exact g1
theorem tpG (hO : KO r s) {e : Nat} {is : List Nat} (hP : Hp r s is) (h4 : is.length ≤ 4) : ∀ j d n, d + j = is.length → j < n → GoC t r s e is d (fX3_tryPlaces n) := by
  intro j
  induction j with
  | zero =>
    intro d n hd hn F N B m h hN hB hsp hF hf
    obtain ⟨n, rfl⟩ : ∃ n', n = n' + 1 := ⟨n - 1, by omega⟩
    have c2 := h.1.2.1.1
    rw [List.drop_eq_nil_of_le (by omega)]
    refine ⟨setI m 96 7 (nI (if tot s N < F then tot s N else F)), if tot s N < F then tot s N else F, ?_, (Fc.rf m).sl _, fun k hk => sI_na (by decide), hN.cg (fun b k z => sI_na (by omega)), sI_eq _ _ _ _, ?_, fun N' z => ?_, ?_⟩
    · rw [fX3_tryPlaces]
      unfold fX3_tryPlaces_13
      by_cases q : tot s N < F
      · simp (disch := omega) only [c2, hf, q, cl2_so, cl1_so, ck_tr, zl_0, zl_1, zl_2, zl_3, zl_4, zl_5, zl_6, zl_7, zl_8, zl_9, zl_10, zl_11, zl_12, zl_15, zl_16, zl_20, zl_24, zl_25, zl_30, zl_31, zl_32, zl_33, zl_44, zl_48, zl_50, zl_57, zl_59, zl_60, zl_61, zl_62, zl_63, zl_64, zl_68, zl_97, zl_99, zl_100, zl_104, zl_108, zl_114, zl_120, zl_122, zl_126, zl_132, zl_180, zl_181, zl_186, zl_255, zl_900, zl_930, zl_1000, zl_1000000, nI_add, pk_mul, zs_sub, zs_lt, zs_le, zs_eq, zs_inb, zs_cl, zm_eq, zm_eq2, zm_lt, zm_le, mz_lt, mz_le, mm_eq, zs_bit, zs_or1, zs_div, zs_rem, ck_pos, if_pos, if_neg, true_or, or_true, true_and, and_true, false_or, or_false, false_and, and_false, not_true, not_false_iff, if_true, if_false, eq_self, Bool.false_eq_true, cl2_id, Bool.not_true, Bool.not_false]
      · simp (disch := omega) only [c2, hf, q, cl2_so, cl1_so, ck_tr, zl_0, zl_1, zl_2, zl_3, zl_4, zl_5, zl_6, zl_7, zl_8, zl_9, zl_10, zl_11, zl_12, zl_15, zl_16, zl_20, zl_24, zl_25, zl_30, zl_31, zl_32, zl_33, zl_44, zl_48, zl_50, zl_57, zl_59, zl_60, zl_61, zl_62, zl_63, zl_64, zl_68, zl_97, zl_99, zl_100, zl_104, zl_108, zl_114, zl_120, zl_122, zl_126, zl_132, zl_180, zl_181, zl_186, zl_255, zl_900, zl_930, zl_1000, zl_1000000, nI_add, pk_mul, zs_sub, zs_lt, zs_le, zs_eq, zs_inb, zs_cl, zm_eq, zm_eq2, zm_lt, zm_le, mz_lt, mz_le, mm_eq, zs_bit, zs_or1, zs_div, zs_rem, ck_pos, if_pos, if_neg, true_or, or_true, true_and, and_true, false_or, or_false, false_and, and_false, not_true, not_false_iff, if_true, if_false, eq_self, Bool.false_eq_true, cl2_id, Bool.not_true, Bool.not_false]
    · split <;> omega
    · rw [show N' = N from z]
      split <;> omega
    · by_cases q : tot s N < F
      · rw [if_pos q]
        exact Or.inr ⟨N, rfl, rfl⟩
      · rw [if_neg q]
        exact Or.inl rfl
  | succ j ih =>
    intro d n hd hn F N B m h hN hB hsp hF hf
    obtain ⟨n, rfl⟩ : ∃ n', n = n' + 1 := ⟨n - 1, by omega⟩
    have c2 := h.1.2.1.1
    have hdl : d < is.length := by omega
    have hlsm := lsm_le (r := r) (s := s) (is := is) (N := N) (d := d) j (d + 1)
    obtain ⟨m1, f1, f2⟩ := tp33 (t := t) hO hP (d := d) (x2 := nI (tot s N)) (rec := fX3_tryPlaces n) j (d + 1) FU (tot s N) m h.1 hN h.2 (by omega) (by omega) (FU_pos (by omega)) (by omega)
    have h1 := h.fc hO f2.fc
    obtain ⟨m2, g1, g2, g3⟩ := wp_e (t := t) hO hdl rfl (hP d hdl) h1.1 (hN.fr f2)
    have h2 := h1.fc hO g2.fc
    have ej : is.length - (d + 1) = j := by omega
    have fw : m2.1 96 7 = nI F := ((g2.2.1 _ _ (by omega)).trans (f2.2.1 _ _ (by omega))).trans hf
    obtain ⟨m3, F3, i1, i2, i3, i4, i5, i6, i7⟩ := tp67 (t := t) hO hP hdl rfl (ih (d + 1) n (by omega) (by omega)) hB hsp 9 0 FU F m2 h2 ((hN.fr f2).fr g2) hF fw g3 (fun q x a b c => by omega) (by omega) (FU_pos (by omega))
    rw [ej] at i1
    refine ⟨m3, F3, ?_, (f2.fc.tr g2.fc).tr i2, fun k hk => ?_, i4, i5, i6.1, fun N' z => ?_, i6.2⟩
    · rw [fX3_tryPlaces]
      simp (disch := omega) only [c2, f1, g1, cl2_so, cl1_so, ck_tr, zl_0, zl_1, zl_2, zl_3, zl_4, zl_5, zl_6, zl_7, zl_8, zl_9, zl_10, zl_11, zl_12, zl_15, zl_16, zl_20, zl_24, zl_25, zl_30, zl_31, zl_32, zl_33, zl_44, zl_48, zl_50, zl_57, zl_59, zl_60, zl_61, zl_62, zl_63, zl_64, zl_68, zl_97, zl_99, zl_100, zl_104, zl_108, zl_114, zl_120, zl_122, zl_126, zl_132, zl_180, zl_181, zl_186, zl_255, zl_900, zl_930, zl_1000, zl_1000000, nI_add, pk_mul, zs_sub, zs_lt, zs_le, zs_eq, zs_inb, zs_cl, zm_eq, zm_eq2, zm_lt, zm_le, mz_lt, mz_le, mm_eq, zs_bit, zs_or1, zs_div, zs_rem, ck_pos, if_pos, if_neg, true_or, or_true, true_and, and_true, false_or, or_false, false_and, and_false, not_true, not_false_iff, if_true, if_false, eq_self, Bool.false_eq_true, cl2_id, Bool.not_true, Bool.not_false]
      exact i1
    · rw [i3 k (by omega), g2.2.1 _ _ (by omega), f2.2.1 _ _ (by omega)]
    · rw [drop_cons hdl] at z
      obtain ⟨p, a, b, c⟩ := z
      have hi := (h.1.2.2.2 d hdl).1
      have o8 := (hO.1.i hi).2.2.1
      have x8 := dl_8 hO hi (npl_at a) o8 b
      exact i7 p _ a (cso_c hO hi a b) (Or.inl (by omega)) N' c
theorem tot_0 (s : Nat → Nat) : tot s n0 = 0 := z_ct_0 _ _ (fun _ _ _ => rfl)
theorem ch_np : ∀ (is : List Nat) (N N' : Nat → Option Nat), Ch r s is N N' → ∀ i ∈ is, 0 < npl r s i
  | [], N, N', _, i, hi => by cases hi
  | a :: is, N, N', ⟨p, h1, _, h3⟩, i, hi => by
    rcases List.mem_cons.mp hi with e | e
    · rw [e]; omega
    · exact ch_np is _ _ h3 i e
theorem KC.side (h : KC m t r s) (hO : KO r s) {e : Nat} (he : e ≤ 1) : ∃ m1, fX3_gather t 81 (nI e) m = some m1 ∧ ((fX3_lacksPlace m1 = some (nI 1, m1) ∧ Ak sC m m1 ∧ KC m1 t r s ∧ mbl r s (sdR r e) n0 = none) ∨ (fX3_lacksPlace m1 = some (nI 0, m1) ∧ ∃ m2 m3, fX3_compareWishes m1 = some m2 ∧ fX3_tryPlaces 8 (nI 0) (nI 0) (setI m2 96 7 (nI 33)) = some m3 ∧ Ak sC m m3 ∧ KC m3 t r s ∧ m3.1 96 7 = nI ((mbl r s (sdR r e) n0).getD 33))) := by
  obtain ⟨hl4, hin, his⟩ := sdS_ok hO.1 (e := e)
  have hpm := sdS_perm hO.1 (e := e)
  have emb : mbl r s (sdR r e) n0 = mbl r s (sdS r e) n0 := (mbl_perm hO hpm (fun i hi => (hin i hi).1) n0).symm
  rw [emb]
  obtain ⟨m1, f1, f2, f3, f4, f5⟩ := h.gather hO he
  have hSd : Sd r e (sdS r e) := ⟨hl4, his⟩
  have e1 := lkp2 hO f3 f4 hSd (sdS r e).length 0 FU (by omega) (FU_pos (by omega))
  have e1' : fX3_lacksPlace m1 = some (nI (if z_al (fun d => !lkp r s (sdS r e) d) 0 (sdS r e).length = true then 0 else 1), m1) := e1
  refine ⟨m1, f1, ?_⟩
  by_cases hz : ∃ d, d < (sdS r e).length ∧ lkp r s (sdS r e) d = true
  · have ez : z_al (fun d => !lkp r s (sdS r e) d) 0 (sdS r e).length = false := by
      obtain ⟨d, hd, hk⟩ := hz
      cases hq : z_al (fun d => !lkp r s (sdS r e) d) 0 (sdS r e).length
      · rfl
      · have := (z_al_iff _ _ _).mp hq d (by omega) (by omega)
        rw [hk] at this
        cases this
    rw [ez] at e1'
    refine Or.inl ⟨e1', f2, f3, ?_⟩
    obtain ⟨d, hd, hk⟩ := hz
    have hmem : (sdS r e).getD d 0 ∈ sdS r e := getD_mem0 hd
    unfold lkp at hk
    cases hb : z_bare (z_wish r ((sdS r e).getD d 0))
    · rw [hb] at hk
      have hlen := of_decide_eq_true hk
      cases hx : mbl r s (sdS r e) n0 with
      | none => rfl
      | some x =>
        exfalso
        have hnb : ∀ i ∈ sdS r e, z_bare (z_wish r i) = false := fun i hi => by
          cases hc : z_bare (z_wish r i)
          · rfl
          · rw [mbl_bare (sdS r e) n0 ⟨i, hi, hc⟩] at hx
            cases hx
        obtain ⟨N', c1, -⟩ := (mbl_ch hO (sdS r e) n0 (fun i hi => (hin i hi).1) hnb).2 x hx
        have := ch_np _ _ _ c1 _ hmem
        unfold npl at this
        omega
    · exact mbl_bare _ _ ⟨_, hmem, hb⟩
  · have hno : ∀ d, d < (sdS r e).length → lkp r s (sdS r e) d = false := fun d hd => by
      cases hq : lkp r s (sdS r e) d
      · rfl
      · exact absurd ⟨d, hd, hq⟩ hz
    have ez : z_al (fun d => !lkp r s (sdS r e) d) 0 (sdS r e).length = true := (z_al_iff _ _ _).mpr (fun d _ hd => by rw [hno d (by omega)]; rfl)
    rw [ez] at e1'
    refine Or.inr ⟨e1', ?_⟩
    have hP : Hp r s (sdS r e) := fun d hd => by
      have := hno d hd
      unfold lkp at this
      have := (Bool.or_eq_false_iff.mp this).2
      have := of_decide_eq_false this
      omega
    have hnb : ∀ i ∈ sdS r e, z_bare (z_wish r i) = false := fun i hi => by
      obtain ⟨q, hq, rfl⟩ := List.getElem_of_mem hi
      have h1 := hno q hq
      unfold lkp at h1
      have h2 := (Bool.or_eq_false_iff.mp h1).1
      rw [List.getD_eq_getElem?_getD, List.getElem?_eq_getElem hq] at h2
      exact h2
    have hNB : NB m1 r e n0 n0 := fun x hx hvx => by
      have hc := cc_lt hO.1.1 hvx
      exact ⟨(f5 _ hc).1, (f5 _ hc).2, fun l z => (by cases z), fun q z => (by cases z), ⟨fun _ => rfl, fun _ => rfl⟩⟩
    obtain ⟨m2, g1, g2, g3, g4⟩ := cmw2 (t := t) hO hP (sdS r e).length 0 FU m1 ⟨f3, f4, hSd⟩ hNB (by omega) (FU_pos (by omega)) (fun a w x => by omega)
    have p1 : Fc m2 (setI m2 96 7 (nI 33)) := (Fc.rf m2).sl _
    have hW2 : Wsh m2 t r s e (sdS r e) := ⟨(show Wdh m1 t r s e (sdS r e) from ⟨f3, f4, hSd⟩).fs hO g2, g4⟩
    obtain ⟨m3, F3, i1, i2, i3, i4, i5, i6, i7, i8⟩ := tpG (t := t) (s := s) (e := e) hO hP hl4 (sdS r e).length 0 8 (by omega) (by omega) 33 n0 n0 _ (hW2.fc hO p1) (g3.cg (fun b k z => sI_na (by omega))) (fun x _ _ q z => (by cases z)) (by rw [tot_0]; omega) (Nat.le_refl _) (sI_eq _ _ _ _)
    rw [tot_0] at i1
    rw [List.drop_zero] at i7 i8
    refine ⟨m2, m3, g1, i1, ((f2.tr g2.1).tr p1.1).tr i2.1, ((hW2.fc hO p1).fc hO i2).1.1, ?_⟩
    rw [i5]
    congr 1
    obtain ⟨a1, a2⟩ := mbl_ch hO (sdS r e) n0 (fun i hi => (hin i hi).1) hnb
    cases hx : mbl r s (sdS r e) n0 with
    | none =>
      rcases i8 with z | ⟨N', z1, -⟩
      · exact z
      · obtain ⟨x, hx', -⟩ := a1 N' z1
        rw [hx] at hx'
        cases hx'
    | some x =>
      show F3 = x
      obtain ⟨N', c1, c2⟩ := a2 x hx
      have l1 := i7 N' c1
      have l2 := mbl_le hO.1 _ n0 x (fun a ha => (hin a ha).1) hx
      rw [tot_0] at c2
      rcases i8 with z | ⟨N2, z1, z2⟩
      · omega
      · obtain ⟨x', hx', l3⟩ := a1 N2 z1
        rw [hx] at hx'
        have := Option.some.inj hx'
        rw [tot_0] at l3
        omega
theorem maR_e (hO : KO r s) : maR r s = oplus (mbl r s (sdR r 0) n0) (mbl r s (sdR r 1) n0) := mbl_split hO _ _ (fun i hi => by have := List.mem_range'_1.mp hi; omega)
theorem KC.mendAll (h : KC m t r s) (hO : KO r s) : ∃ m', fX3_fewestForAll t 81 m = some (maV (maR r s), m') ∧ Ak sC m m' := by
  rw [maR_e hO]
  have hb : ∀ e x, mbl r s (sdR r e) n0 = some x → x ≤ 32 := by
    intro e x hx
    obtain ⟨hl4, hin⟩ := sdR_ok hO.1 (e := e)
    have := mbl_le hO.1 _ n0 x (fun a ha => (hin a ha).1) hx
    omega
  obtain ⟨m1, a1, ha⟩ := h.side hO (e := 0) (by omega)
  unfold fX3_fewestForAll
  rw [FU_s, fX3_fewestForAll_5]
  rcases ha with ⟨a2, a3, -, a5⟩ | ⟨a2, m2, m3, a3, a4, a5, a6, a7⟩
  · rw [a5]
    refine ⟨m1, ?_, a3⟩
    simp (disch := omega) only [a1, a2, cl2_so, cl1_so, ck_tr, zl_0, zl_1, zl_2, zl_3, zl_4, zl_5, zl_6, zl_7, zl_8, zl_9, zl_10, zl_11, zl_12, zl_15, zl_16, zl_20, zl_24, zl_25, zl_30, zl_31, zl_32, zl_33, zl_44, zl_48, zl_50, zl_57, zl_59, zl_60, zl_61, zl_62, zl_63, zl_64, zl_68, zl_97, zl_99, zl_100, zl_104, zl_108, zl_114, zl_120, zl_122, zl_126, zl_132, zl_180, zl_181, zl_186, zl_255, zl_900, zl_930, zl_1000, zl_1000000, nI_add, pk_mul, zs_sub, zs_lt, zs_le, zs_eq, zs_inb, zs_cl, zm_eq, zm_eq2, zm_lt, zm_le, mz_lt, mz_le, mm_eq, zs_bit, zs_or1, zs_div, zs_rem, ck_pos, if_pos, if_neg, true_or, or_true, true_and, and_true, false_or, or_false, false_and, and_false, not_true, not_false_iff, if_true, if_false, eq_self, Bool.false_eq_true, cl2_id, Bool.not_true, Bool.not_false]
    rfl
  · obtain ⟨m4, b1, hb'⟩ := a6.side hO (e := 1) (by omega)
    cases h0 : mbl r s (sdR r 0) n0 with
    | none =>
      rw [h0] at a7
      have a7' : m3.1 96 7 = nI 33 := a7
      refine ⟨m3, ?_, a5⟩
      simp (disch := omega) only [a1, a2, a3, a4, a7', cl2_so, cl1_so, ck_tr, zl_0, zl_1, zl_2, zl_3, zl_4, zl_5, zl_6, zl_7, zl_8, zl_9, zl_10, zl_11, zl_12, zl_15, zl_16, zl_20, zl_24, zl_25, zl_30, zl_31, zl_32, zl_33, zl_44, zl_48, zl_50, zl_57, zl_59, zl_60, zl_61, zl_62, zl_63, zl_64, zl_68, zl_97, zl_99, zl_100, zl_104, zl_108, zl_114, zl_120, zl_122, zl_126, zl_132, zl_180, zl_181, zl_186, zl_255, zl_900, zl_930, zl_1000, zl_1000000, nI_add, pk_mul, zs_sub, zs_lt, zs_le, zs_eq, zs_inb, zs_cl, zm_eq, zm_eq2, zm_lt, zm_le, mz_lt, mz_le, mm_eq, zs_bit, zs_or1, zs_div, zs_rem, ck_pos, if_pos, if_neg, true_or, or_true, true_and, and_true, false_or, or_false, false_and, and_false, not_true, not_false_iff, if_true, if_false, eq_self, Bool.false_eq_true, cl2_id, Bool.not_true, Bool.not_false]
      rfl
    | some x =>
      have hx := hb 0 x h0
      rw [h0] at a7
      have a7' : m3.1 96 7 = nI x := a7
      simp (disch := omega) only [a1, a2, a3, a4, a7', cl2_so, cl1_so, ck_tr, zl_0, zl_1, zl_2, zl_3, zl_4, zl_5, zl_6, zl_7, zl_8, zl_9, zl_10, zl_11, zl_12, zl_15, zl_16, zl_20, zl_24, zl_25, zl_30, zl_31, zl_32, zl_33, zl_44, zl_48, zl_50, zl_57, zl_59, zl_60, zl_61, zl_62, zl_63, zl_64, zl_68, zl_97, zl_99, zl_100, zl_104, zl_108, zl_114, zl_120, zl_122, zl_126, zl_132, zl_180, zl_181, zl_186, zl_255, zl_900, zl_930, zl_1000, zl_1000000, nI_add, pk_mul, zs_sub, zs_lt, zs_le, zs_eq, zs_inb, zs_cl, zm_eq, zm_eq2, zm_lt, zm_le, mz_lt, mz_le, mm_eq, zs_bit, zs_or1, zs_div, zs_rem, ck_pos, if_pos, if_neg, true_or, or_true, true_and, and_true, false_or, or_false, false_and, and_false, not_true, not_false_iff, if_true, if_false, eq_self, Bool.false_eq_true, cl2_id, Bool.not_true, Bool.not_false]
      rw [fX3_fewestForAll_5]
      rcases hb' with ⟨b2, b3, -, b5⟩ | ⟨b2, m5, m6, b3, b4, b5, b6, b7⟩
      · rw [b5]
        refine ⟨m4, ?_, a5.tr b3⟩
        simp (disch := omega) only [b1, b2, cl2_so, cl1_so, ck_tr, zl_0, zl_1, zl_2, zl_3, zl_4, zl_5, zl_6, zl_7, zl_8, zl_9, zl_10, zl_11, zl_12, zl_15, zl_16, zl_20, zl_24, zl_25, zl_30, zl_31, zl_32, zl_33, zl_44, zl_48, zl_50, zl_57, zl_59, zl_60, zl_61, zl_62, zl_63, zl_64, zl_68, zl_97, zl_99, zl_100, zl_104, zl_108, zl_114, zl_120, zl_122, zl_126, zl_132, zl_180, zl_181, zl_186, zl_255, zl_900, zl_930, zl_1000, zl_1000000, nI_add, pk_mul, zs_sub, zs_lt, zs_le, zs_eq, zs_inb, zs_cl, zm_eq, zm_eq2, zm_lt, zm_le, mz_lt, mz_le, mm_eq, zs_bit, zs_or1, zs_div, zs_rem, ck_pos, if_pos, if_neg, true_or, or_true, true_and, and_true, false_or, or_false, false_and, and_false, not_true, not_false_iff, if_true, if_false, eq_self, Bool.false_eq_true, cl2_id, Bool.not_true, Bool.not_false]
        rfl
      · cases h1 : mbl r s (sdR r 1) n0 with
        | none =>
          rw [h1] at b7
          have b7' : m6.1 96 7 = nI 33 := b7
          refine ⟨m6, ?_, a5.tr b5⟩
          simp (disch := omega) only [b1, b2, b3, b4, b7', cl2_so, cl1_so, ck_tr, zl_0, zl_1, zl_2, zl_3, zl_4, zl_5, zl_6, zl_7, zl_8, zl_9, zl_10, zl_11, zl_12, zl_15, zl_16, zl_20, zl_24, zl_25, zl_30, zl_31, zl_32, zl_33, zl_44, zl_48, zl_50, zl_57, zl_59, zl_60, zl_61, zl_62, zl_63, zl_64, zl_68, zl_97, zl_99, zl_100, zl_104, zl_108, zl_114, zl_120, zl_122, zl_126, zl_132, zl_180, zl_181, zl_186, zl_255, zl_900, zl_930, zl_1000, zl_1000000, nI_add, pk_mul, zs_sub, zs_lt, zs_le, zs_eq, zs_inb, zs_cl, zm_eq, zm_eq2, zm_lt, zm_le, mz_lt, mz_le, mm_eq, zs_bit, zs_or1, zs_div, zs_rem, ck_pos, if_pos, if_neg, true_or, or_true, true_and, and_true, false_or, or_false, false_and, and_false, not_true, not_false_iff, if_true, if_false, eq_self, Bool.false_eq_true, cl2_id, Bool.not_true, Bool.not_false]
          rfl
        | some y =>
          have hy := hb 1 y h1
          rw [h1] at b7
          have b7' : m6.1 96 7 = nI y := b7
          refine ⟨m6, ?_, a5.tr b5⟩
          simp (disch := omega) only [b1, b2, b3, b4, b7', cl2_so, cl1_so, ck_tr, zl_0, zl_1, zl_2, zl_3, zl_4, zl_5, zl_6, zl_7, zl_8, zl_9, zl_10, zl_11, zl_12, zl_15, zl_16, zl_20, zl_24, zl_25, zl_30, zl_31, zl_32, zl_33, zl_44, zl_48, zl_50, zl_57, zl_59, zl_60, zl_61, zl_62, zl_63, zl_64, zl_68, zl_97, zl_99, zl_100, zl_104, zl_108, zl_114, zl_120, zl_122, zl_126, zl_132, zl_180, zl_181, zl_186, zl_255, zl_900, zl_930, zl_1000, zl_1000000, nI_add, pk_mul, zs_sub, zs_lt, zs_le, zs_eq, zs_inb, zs_cl, zm_eq, zm_eq2, zm_lt, zm_le, mz_lt, mz_le, mm_eq, zs_bit, zs_or1, zs_div, zs_rem, ck_pos, if_pos, if_neg, true_or, or_true, true_and, and_true, false_or, or_false, false_and, and_false, not_true, not_false_iff, if_true, if_false, eq_self, Bool.false_eq_true, cl2_id, Bool.not_true, Bool.not_false]
          rw [fX3_fewestForAll_5]
          simp (disch := omega) only [cl2_so, cl1_so, ck_tr, zl_0, zl_1, zl_2, zl_3, zl_4, zl_5, zl_6, zl_7, zl_8, zl_9, zl_10, zl_11, zl_12, zl_15, zl_16, zl_20, zl_24, zl_25, zl_30, zl_31, zl_32, zl_33, zl_44, zl_48, zl_50, zl_57, zl_59, zl_60, zl_61, zl_62, zl_63, zl_64, zl_68, zl_97, zl_99, zl_100, zl_104, zl_108, zl_114, zl_120, zl_122, zl_126, zl_132, zl_180, zl_181, zl_186, zl_255, zl_900, zl_930, zl_1000, zl_1000000, nI_add, pk_mul, zs_sub, zs_lt, zs_le, zs_eq, zs_inb, zs_cl, zm_eq, zm_eq2, zm_lt, zm_le, mz_lt, mz_le, mm_eq, zs_bit, zs_or1, zs_div, zs_rem, ck_pos, if_pos, if_neg, true_or, or_true, true_and, and_true, false_or, or_false, false_and, and_false, not_true, not_false_iff, if_true, if_false, eq_self, Bool.false_eq_true, cl2_id, Bool.not_true, Bool.not_false]
          rw [show maV (oplus (some x) (some y)) = nI (x + y) from rfl, Nat.zero_add]
theorem b_mendAll (hI : Inv m) (hC : JC m H r s) (hM : JM m H r s) (hO : JO H r s) : Both fX10_mendAll fX11_mendAll m := by
  cases H
  · refine ⟨-nI 1, 1, ?_, fun m1 h1 => ?_⟩
    · have e := hC.1
      simp only [HB] at e
      unfold fX10_mendAll fX10_mendAll_34
      simp (disch := omega) only [e, cl2_so, cl1_so, ck_tr, zl_0, zl_1, zl_2, zl_3, zl_4, zl_5, zl_6, zl_7, zl_8, zl_9, zl_10, zl_11, zl_12, zl_15, zl_16, zl_20, zl_24, zl_25, zl_30, zl_31, zl_32, zl_33, zl_44, zl_48, zl_50, zl_57, zl_59, zl_60, zl_61, zl_62, zl_63, zl_64, zl_68, zl_97, zl_99, zl_100, zl_104, zl_108, zl_114, zl_120, zl_122, zl_126, zl_132, zl_180, zl_181, zl_186, zl_255, zl_900, zl_930, zl_1000, zl_1000000, nI_add, pk_mul, zs_sub, zs_lt, zs_le, zs_eq, zs_inb, zs_cl, zm_eq, zm_eq2, zm_lt, zm_le, mz_lt, mz_le, mm_eq, zs_bit, zs_or1, zs_div, zs_rem, ck_pos, if_pos, if_neg, true_or, or_true, true_and, and_true, false_or, or_false, false_and, and_false, not_true, not_false_iff, if_true, if_false, eq_self, Bool.false_eq_true, cl2_id, Bool.not_true, Bool.not_false]
      exact ansC_no 1 (Ak.rf m)
    · have hM1 := hM.ag (h1.agC.tr (gd_ak m1).agM)
      have e := hM1.1
      simp only [HB] at e
      unfold fX11_mendAll
      simp (disch := omega) only [gd_e, e, cl2_so, cl1_so, ck_tr, zl_0, zl_1, zl_2, zl_3, zl_4, zl_5, zl_6, zl_7, zl_8, zl_9, zl_10, zl_11, zl_12, zl_15, zl_16, zl_20, zl_24, zl_25, zl_30, zl_31, zl_32, zl_33, zl_44, zl_48, zl_50, zl_57, zl_59, zl_60, zl_61, zl_62, zl_63, zl_64, zl_68, zl_97, zl_99, zl_100, zl_104, zl_108, zl_114, zl_120, zl_122, zl_126, zl_132, zl_180, zl_181, zl_186, zl_255, zl_900, zl_930, zl_1000, zl_1000000, nI_add, pk_mul, zs_sub, zs_lt, zs_le, zs_eq, zs_inb, zs_cl, zm_eq, zm_eq2, zm_lt, zm_le, mz_lt, mz_le, mm_eq, zs_bit, zs_or1, zs_div, zs_rem, ck_pos, if_pos, if_neg, true_or, or_true, true_and, and_true, false_or, or_false, false_and, and_false, not_true, not_false_iff, if_true, if_false, eq_self, Bool.false_eq_true, cl2_id, Bool.not_true, Bool.not_false]
      exact ansM_no 1 (gd_ak m1)
  · have hK : KO r s := hO rfl
    have hle : ∀ x, maR r s = some x → x ≤ 32 := by
      intro x hx
      have h6 := hK.1.2.2.2.2.1
      have := mbl_le hK.1 _ n0 x (fun a ha => by have := List.mem_range'_1.mp ha; omega) hx
      rw [List.length_range'] at this
      omega
    refine ⟨maV (maR r s), 0, ?_, fun m1 h1 => ?_⟩
    · have e := hC.1
      simp only [HB, if_true] at e
      obtain ⟨m2, e2, a2⟩ := (hC.kc hI).mendAll hK
      unfold fX10_mendAll fX10_mendAll_34
      simp (disch := omega) only [e, e2, cl2_so, cl1_so, ck_tr, zl_0, zl_1, zl_2, zl_3, zl_4, zl_5, zl_6, zl_7, zl_8, zl_9, zl_10, zl_11, zl_12, zl_15, zl_16, zl_20, zl_24, zl_25, zl_30, zl_31, zl_32, zl_33, zl_44, zl_48, zl_50, zl_57, zl_59, zl_60, zl_61, zl_62, zl_63, zl_64, zl_68, zl_97, zl_99, zl_100, zl_104, zl_108, zl_114, zl_120, zl_122, zl_126, zl_132, zl_180, zl_181, zl_186, zl_255, zl_900, zl_930, zl_1000, zl_1000000, nI_add, pk_mul, zs_sub, zs_lt, zs_le, zs_eq, zs_inb, zs_cl, zm_eq, zm_eq2, zm_lt, zm_le, mz_lt, mz_le, mm_eq, zs_bit, zs_or1, zs_div, zs_rem, ck_pos, if_pos, if_neg, true_or, or_true, true_and, and_true, false_or, or_false, false_and, and_false, not_true, not_false_iff, if_true, if_false, eq_self, Bool.false_eq_true, cl2_id, Bool.not_true, Bool.not_false]
      exact ansC_ok _ a2
    · have hM1 := hM.ag (h1.agC.tr (gd_ak m1).agM)
      have e := hM1.1
      simp only [HB, if_true] at e
      obtain ⟨m2, e2, a2⟩ := hM1.km.mendAll hK
      unfold fX11_mendAll
      simp (disch := omega) only [gd_e, e, e2, cl2_so, cl1_so, ck_tr, zl_0, zl_1, zl_2, zl_3, zl_4, zl_5, zl_6, zl_7, zl_8, zl_9, zl_10, zl_11, zl_12, zl_15, zl_16, zl_20, zl_24, zl_25, zl_30, zl_31, zl_32, zl_33, zl_44, zl_48, zl_50, zl_57, zl_59, zl_60, zl_61, zl_62, zl_63, zl_64, zl_68, zl_97, zl_99, zl_100, zl_104, zl_108, zl_114, zl_120, zl_122, zl_126, zl_132, zl_180, zl_181, zl_186, zl_255, zl_900, zl_930, zl_1000, zl_1000000, nI_add, pk_mul, zs_sub, zs_lt, zs_le, zs_eq, zs_inb, zs_cl, zm_eq, zm_eq2, zm_lt, zm_le, mz_lt, mz_le, mm_eq, zs_bit, zs_or1, zs_div, zs_rem, ck_pos, if_pos, if_neg, true_or, or_true, true_and, and_true, false_or, or_false, false_and, and_false, not_true, not_false_iff, if_true, if_false, eq_self, Bool.false_eq_true, cl2_id, Bool.not_true, Bool.not_false]
      exact ansN_ok _ a2
end MA6
