/-! Rows by which both programs are evaluated over numbers; what a call may leave behind. -/
theorem zl_0 : (0 : Int32) = nI 0 := by decide
theorem zl_1 : (1 : Int32) = nI 1 := by decide
theorem zl_2 : (2 : Int32) = nI 2 := by decide
theorem zl_3 : (3 : Int32) = nI 3 := by decide
theorem zl_4 : (4 : Int32) = nI 4 := by decide
theorem zl_5 : (5 : Int32) = nI 5 := by decide
theorem zl_6 : (6 : Int32) = nI 6 := by decide
theorem zl_7 : (7 : Int32) = nI 7 := by decide
theorem zl_8 : (8 : Int32) = nI 8 := by decide
theorem zl_9 : (9 : Int32) = nI 9 := by decide
theorem zl_10 : (10 : Int32) = nI 10 := by decide
theorem zl_11 : (11 : Int32) = nI 11 := by decide
theorem zl_12 : (12 : Int32) = nI 12 := by decide
theorem zl_15 : (15 : Int32) = nI 15 := by decide
theorem zl_16 : (16 : Int32) = nI 16 := by decide
theorem zl_20 : (20 : Int32) = nI 20 := by decide
theorem zl_24 : (24 : Int32) = nI 24 := by decide
theorem zl_25 : (25 : Int32) = nI 25 := by decide
theorem zl_30 : (30 : Int32) = nI 30 := by decide
theorem zl_31 : (31 : Int32) = nI 31 := by decide
theorem zl_32 : (32 : Int32) = nI 32 := by decide
theorem zl_33 : (33 : Int32) = nI 33 := by decide
theorem zl_44 : (44 : Int32) = nI 44 := by decide
theorem zl_48 : (48 : Int32) = nI 48 := by decide
theorem zl_50 : (50 : Int32) = nI 50 := by decide
theorem zl_57 : (57 : Int32) = nI 57 := by decide
theorem zl_59 : (59 : Int32) = nI 59 := by decide
theorem zl_60 : (60 : Int32) = nI 60 := by decide
theorem zl_61 : (61 : Int32) = nI 61 := by decide
theorem zl_62 : (62 : Int32) = nI 62 := by decide
theorem zl_63 : (63 : Int32) = nI 63 := by decide
theorem zl_64 : (64 : Int32) = nI 64 := by decide
theorem zl_68 : (68 : Int32) = nI 68 := by decide
theorem zl_97 : (97 : Int32) = nI 97 := by decide
theorem zl_99 : (99 : Int32) = nI 99 := by decide
theorem zl_100 : (100 : Int32) = nI 100 := by decide
theorem zl_104 : (104 : Int32) = nI 104 := by decide
theorem zl_108 : (108 : Int32) = nI 108 := by decide
theorem zl_114 : (114 : Int32) = nI 114 := by decide
theorem zl_120 : (120 : Int32) = nI 120 := by decide
theorem zl_122 : (122 : Int32) = nI 122 := by decide
theorem zl_126 : (126 : Int32) = nI 126 := by decide
theorem zl_132 : (132 : Int32) = nI 132 := by decide
theorem zl_180 : (180 : Int32) = nI 180 := by decide
theorem zl_181 : (181 : Int32) = nI 181 := by decide
theorem zl_186 : (186 : Int32) = nI 186 := by decide
theorem zl_255 : (255 : Int32) = nI 255 := by decide
theorem zl_900 : (900 : Int32) = nI 900 := by decide
theorem zl_930 : (930 : Int32) = nI 930 := by decide
theorem zl_1000 : (1000 : Int32) = nI 1000 := by decide
theorem zl_1000000 : (1000000 : Int32) = nI 1000000 := by decide
theorem cl2_so {α β : Type} {k : α → Me → Option β} {a : α} {m : Me} : cl2 (some (a, m)) k = k a m := rfl
theorem cl1_so {β : Type} {k : Me → Option β} {m : Me} : cl1 (some m) k = k m := rfl
theorem ck_tr {α : Type} {e : Option α} [h : Decidable True] : ck True e = e := if_pos True.intro
theorem zs_sub {a b : Nat} (h : b ≤ a) : nI a - nI b = nI (a - b) := pk_sub h
theorem zs_lt {a b : Nat} (ha : a < 2147483648) (hb : b < 2147483648) : nI a < nI b ↔ a < b := nI_ltI (by omega) (by omega)
theorem zs_le {a b : Nat} (ha : a < 2147483648) (hb : b < 2147483648) : nI a ≤ nI b ↔ a ≤ b := nI_leI (by omega) (by omega)
theorem zs_eq {a b : Nat} (ha : a < 2147483648) (hb : b < 2147483648) : nI a = nI b ↔ a = b := nI_eq (by omega) (by omega)
theorem zs_inb {a n : Nat} (ha : a < 2147483648) : inb (nI a) n ↔ a < n := z_inb (by omega)
theorem zs_cl {a : Nat} (ha : a < 2147483648) : (nI a).toNatClampNeg = a := nI_clamp (by omega)
theorem zs_neg {b : Nat} (hb : b < 2147483648) : (-nI b).toInt = -(b : Int) := by
  rw [Int32.toInt_neg, nI_toInt (by omega)]
  rw [Int.bmod_eq_of_le (by omega) (by omega)]
theorem zm_eq {a b : Nat} (ha : a < 2147483648) (hb : b < 2147483648) : nI a = -nI b ↔ a = 0 ∧ b = 0 := by
  rw [← Int32.toInt_inj, zs_neg hb, nI_toInt (by omega)]
  omega
theorem zm_eq2 {a b : Nat} (ha : a < 2147483648) (hb : b < 2147483648) : -nI b = nI a ↔ a = 0 ∧ b = 0 := by
  rw [← Int32.toInt_inj, zs_neg hb, nI_toInt (by omega)]
  omega
theorem zm_lt {a b : Nat} (ha : a < 2147483648) (hb : b < 2147483648) : nI a < -nI b ↔ False := by
  rw [Int32.lt_iff_toInt_lt, zs_neg hb, nI_toInt (by omega)]
  exact iff_of_false (by omega) id
theorem zm_le {a b : Nat} (ha : a < 2147483648) (hb : b < 2147483648) : nI a ≤ -nI b ↔ a = 0 ∧ b = 0 := by
  rw [Int32.le_iff_toInt_le, zs_neg hb, nI_toInt (by omega)]
  omega
theorem mz_lt {a b : Nat} (ha : a < 2147483648) (hb : b < 2147483648) : -nI b < nI a ↔ 0 < a ∨ 0 < b := by
  rw [Int32.lt_iff_toInt_lt, zs_neg hb, nI_toInt (by omega)]
  omega
theorem mz_le {a b : Nat} (ha : a < 2147483648) (hb : b < 2147483648) : -nI b ≤ nI a ↔ True := by
  rw [Int32.le_iff_toInt_le, zs_neg hb, nI_toInt (by omega)]
  exact iff_of_true (by omega) trivial
theorem mm_eq {a b : Nat} (ha : a < 2147483648) (hb : b < 2147483648) : -nI a = -nI b ↔ a = b := by
  rw [← Int32.toInt_inj, zs_neg hb, zs_neg ha]
  omega
theorem zs_bit {br k : Nat} (hb : br < 2147483648) (hk : k < 31) : ((nI br >>> (nI k &&& nI 31)) &&& nI 1) = nI (if br.testBit k then 1 else 0) := z_bit (by omega) hk
theorem zs_bit' {br k : Nat} (hb : br < 2147483648) (hk : k < 31) : ((nI br >>> (nI k &&& 31)) &&& nI 1) = nI (if br.testBit k then 1 else 0) := z_bit (by omega) hk
theorem nI_orN (a b : Nat) : nI a ||| nI b = nI (a ||| b) := by
  apply Int32.toBitVec_inj.mp
  show BitVec.ofNat 32 a ||| BitVec.ofNat 32 b = BitVec.ofNat 32 (a ||| b)
  rw [BitVec.ofNat_or]
theorem nI_andN (a b : Nat) : nI a &&& nI b = nI (a &&& b) := by
  apply Int32.toBitVec_inj.mp
  show BitVec.ofNat 32 a &&& BitVec.ofNat 32 b = BitVec.ofNat 32 (a &&& b)
  rw [BitVec.ofNat_and]
theorem nI_xorN (a b : Nat) : nI a ^^^ nI b = nI (a ^^^ b) := by
  apply Int32.toBitVec_inj.mp
  show BitVec.ofNat 32 a ^^^ BitVec.ofNat 32 b = BitVec.ofNat 32 (a ^^^ b)
  rw [BitVec.ofNat_xor]
theorem zs_sh1 {k : Nat} (hk : k < 31) : nI 1 <<< (nI k &&& nI 31) = nI (2 ^ k) := (by decide +kernel : ∀ k, k < 31 → nI 1 <<< (nI k &&& nI 31) = nI (2 ^ k)) k hk
theorem zs_or1 {a k : Nat} (hk : k < 31) : nI a ||| (nI 1 <<< (nI k &&& nI 31)) = nI (a ||| 2 ^ k) := by rw [zs_sh1 hk, nI_orN]
theorem zs_div {a b : Nat} (ha : a < 2147483648) (h0 : 0 < b) (hb : b < 2147483648) : nI a / nI b = nI (a / b) := pk_div (by omega) h0 (by omega)
theorem zs_rem {a b c : Nat} (hc : c * b ≤ a) : nI a - nI (c * b) = nI (a - c * b) := pk_sub hc
/-! what a call leaves alone -/
def sC (a j : Nat) : Bool := (a == 0 && j == 16) || (88 ≤ a && a ≤ 93) || (96 ≤ a && a ≤ 131)
def sM (a j : Nat) : Bool := (a == 138 && (j == 0 || j == 11 || j == 25 || j == 26 || j == 31)) || (147 ≤ a && a ≤ 157)
def Ak (sc : Nat → Nat → Bool) (m m' : Me) : Prop := (∀ a j, sc a j = false → m'.1 a j = m.1 a j) ∧ ∀ a j, a ≠ 98 → m'.2 a j = m.2 a j
section AK
variable {sc : Nat → Nat → Bool} {m m' m'' : Me}
theorem Ak.rf (m : Me) : Ak sc m m := ⟨fun _ _ _ => rfl, fun _ _ _ => rfl⟩
theorem Ak.tr (h : Ak sc m m') (h' : Ak sc m' m'') : Ak sc m m'' := ⟨fun a j e => (h'.1 a j e).trans (h.1 a j e), fun a j e => (h'.2 a j e).trans (h.2 a j e)⟩
theorem Ak.set (h : Ak sc m m') {a j : Nat} (x : Int32) (hs : sc a j = true) : Ak sc m (setI m' a j x) := ⟨fun b k e => by
  rw [sI_1]
  by_cases hb : b = a ∧ k = j
  · rw [hb.1, hb.2, hs] at e; cases e
  · rw [if_neg hb]; exact h.1 b k e, h.2⟩
theorem Ak.wl (h : Ak sc m m') {a p : Nat} (l : List Nat) (hs : ∀ j, sc a j = true) : Ak sc m (wl m' a p l) := ⟨fun b k e => by
  by_cases hb : b = a
  · rw [hb, hs k] at e; cases e
  · rw [wl_na hb]; exact h.1 b k e, h.2⟩
theorem Ak.row (h : Ak sc m m') {a : Nat} (C LT : List Nat) (h0 : ∀ j, sc a j = true) (h1 : ∀ j, sc (a + 1) j = true) (h2 : ∀ j, sc (a + 2) j = true) : Ak sc m (rowM m' a C LT) := ((h.wl C h1).wl LT h2).set _ (h0 2)
end AK
theorem sC_scr {a j : Nat} (h : scr a j = false) : sC a j = false := by
  unfold scr at h
  unfold sC
  simp only [Bool.or_eq_false_iff, Bool.and_eq_false_iff, beq_eq_false_iff_ne, decide_eq_false_iff_not] at h ⊢
  omega
theorem sM_scr {a j : Nat} (h : scr a j = false) : sM a j = false := by
  unfold scr at h
  unfold sM
  simp only [Bool.or_eq_false_iff, Bool.and_eq_false_iff, beq_eq_false_iff_ne, decide_eq_false_iff_not] at h ⊢
  omega
theorem Ak.agC {m m' : Me} (h : Ak sC m m') : Ag m m' := ⟨fun a j e => h.1 a j (sC_scr e), h.2⟩
theorem Ak.agM {m m' : Me} (h : Ak sM m m') : Ag m m' := ⟨fun a j e => h.1 a j (sM_scr e), h.2⟩
theorem sC_in {a : Nat} (h : 88 ≤ a ∧ a ≤ 93 ∨ 96 ≤ a ∧ a ≤ 131) (j : Nat) : sC a j = true := by
  unfold sC
  simp only [Bool.or_eq_true, Bool.and_eq_true, beq_iff_eq, decide_eq_true_eq]
  omega
theorem sM_in {a : Nat} (h : 147 ≤ a ∧ a ≤ 157) (j : Nat) : sM a j = true := by
  unfold sM
  simp only [Bool.or_eq_true, Bool.and_eq_true, beq_iff_eq, decide_eq_true_eq]
  omega
/-- answers of the class, of the reference -/
theorem vw_4 (H : Bool) (r : Nat → Nat) (x1 x2 : Int32) : vw H r x1 x2 ≤ 6 ∧ vw H r x1 x2 ≠ 4 := by
  have := vw_le H r x1 x2
  constructor <;> omega
theorem vr_4 (H : Bool) (r : Nat → Nat) (x1 x2 x3 : Int32) : vr H r x1 x2 x3 ≤ 6 ∧ vr H r x1 x2 x3 ≠ 4 := by
  unfold vr
  split
  · exact vw_4 _ _ _ _
  · constructor <;> omega
theorem vb_4 (H : Bool) (r : Nat → Nat) : vb H r ≤ 6 ∧ vb H r ≠ 4 := by
  unfold vb
  split
  · split <;> constructor <;> omega
  · constructor <;> omega
def AnsC (F : Option (Int32 × Me)) (V : Int32) (T : Nat) (m : Me) : Prop := ∃ m', F = some (V, m') ∧ Ak sC m m' ∧ m'.1 0 16 = nI T ∧ T ≤ 6 ∧ T ≠ 4
def AnsM (F : Option (Int32 × Me)) (V : Int32) (T : Nat) (m : Me) : Prop := ∃ m', F = some (V, m') ∧ Ak sM m m' ∧ m'.1 138 11 = nI T
theorem ansC_no {m m' : Me} (T : Nat) (h : Ak sC m m') (hT : T ≤ 6 ∧ T ≠ 4 := by first | decide | exact vw_4 _ _ _ _ | exact vr_4 _ _ _ _ _ | exact vb_4 _ _) : AnsC (fX10_refuse (nI T) m') (-nI 1) T m := ⟨_, rfl, h.set _ (by decide), sI_eq _ _ _ _, hT⟩
theorem ansC_ok {m m' : Me} (V : Int32) (h : Ak sC m m') : AnsC (fX10_answer V m') V 0 m := ⟨_, rfl, h.set _ (by decide), sI_eq _ _ _ _, by decide⟩
theorem ansM_no {m m' : Me} (T : Nat) (h : Ak sM m m') : AnsM (fX11_no (nI T) m') (-nI 1) T m := ⟨_, rfl, h.set _ (by decide), sI_eq _ _ _ _⟩
def gdM (m : Me) : Me := setI (setI m 138 0 (nI 0)) 138 11 (nI 0)
theorem gd_e (m : Me) : fX11_good m = some (gdM m) := rfl
theorem gd_ak (m : Me) : Ak sM m (gdM m) := ((Ak.rf m).set _ (by decide)).set _ (by decide)
theorem gd_11 (m : Me) : (gdM m).1 138 11 = nI 0 := sI_eq _ _ _ _
/-- the same, where only rows that are used anew changed since -/
def sN (a j : Nat) : Bool := (a == 138 && (j == 25 || j == 26 || j == 31)) || (147 ≤ a && a ≤ 157)
theorem sN_sM {a j : Nat} (h : sM a j = false) : sN a j = false := by
  unfold sM at h
  unfold sN
  simp only [Bool.or_eq_false_iff, Bool.and_eq_false_iff, beq_eq_false_iff_ne, decide_eq_false_iff_not] at h ⊢
  omega
theorem Ak.nm {m m' : Me} (h : Ak sN m m') : Ak sM m m' := ⟨fun a j e => h.1 a j (sN_sM e), h.2⟩
theorem Ak.agN {m m' : Me} (h : Ak sN m m') : Ag m m' := h.nm.agM
theorem sN_in {a : Nat} (h : 147 ≤ a ∧ a ≤ 157) (j : Nat) : sN a j = true := by
  unfold sN
  simp only [Bool.or_eq_true, Bool.and_eq_true, beq_iff_eq, decide_eq_true_eq]
  omega
theorem ansN_ok {m m' : Me} (V : Int32) (h : Ak sN (gdM m) m') : AnsM (some (V, m')) V 0 m := ⟨_, rfl, (gd_ak m).tr h.nm, (h.1 138 11 (by decide)).trans (gd_11 m)⟩
theorem ansN_no {m m' : Me} (T : Nat) (h : Ak sN (gdM m) m') : AnsM (fX11_no (nI T) m') (-nI 1) T m := ⟨_, rfl, ((gd_ak m).tr h.nm).set _ (by decide), sI_eq _ _ _ _⟩
theorem ansM_ok {m m' : Me} (V : Int32) (h : Ak sM m m') (h' : m'.1 138 11 = nI 0) : AnsM (some (V, m')) V 0 m := ⟨_, rfl, h, h'⟩
theorem cl2_id {F : Option (Int32 × Me)} : cl2 F (fun a b => some (a, b)) = F := by rcases F with _ | ⟨a, b⟩ <;> rfl
/-! the two states, where there is a fan -/
def KC (m : Me) (t : Nat) (r s : Nat → Nat) : Prop := rr m 0 3 = t ∧ kd t = 2 ∧ CT m t r ∧ CPs m 81 r s ∧ m.1 0 4 = nI 1
def KM (m : Me) (r s : Nat → Nat) : Prop := m.1 138 14 = nI 1 ∧ MR m 141 r ∧ MS m s
def KO (r s : Nat → Nat) : Prop := OKr r ∧ OKs r s
theorem KC.jc {m : Me} {t : Nat} {r s : Nat → Nat} (h : KC m t r s) : JC m true r s := ⟨h.2.2.2.2, fun _ => ⟨by rw [h.1]; exact h.2.2.1, h.2.2.2.1⟩⟩
theorem JC.kc {m : Me} {r s : Nat → Nat} (h : JC m true r s) (hI : Inv m) : KC m (rr m 0 3) r s := ⟨rfl, (ivT hI).2, (h.2 rfl).1, (h.2 rfl).2, h.1⟩
theorem KM.jm {m : Me} {r s : Nat → Nat} (h : KM m r s) : JM m true r s := ⟨h.1, fun _ => h.2⟩
theorem JM.km {m : Me} {r s : Nat → Nat} (h : JM m true r s) : KM m r s := ⟨h.1, h.2 rfl⟩
theorem KC.ag {m m' : Me} {t : Nat} {r s : Nat → Nat} (h : KC m t r s) (hO : KO r s) (hA : Ag m m') : KC m' t r s := by
  have := JC.ag h.jc (fun _ => hO) (by rw [h.1]; exact h.2.1) hA
  refine ⟨hA.rr.1.trans h.1, h.2.1, ?_, (this.2 rfl).2, this.1⟩
  have e := (this.2 rfl).1
  rw [hA.rr.1, h.1] at e
  exact e
theorem KM.ag {m m' : Me} {r s : Nat → Nat} (h : KM m r s) (hA : Ag m m') : KM m' r s := (JM.ag h.jm hA).km
