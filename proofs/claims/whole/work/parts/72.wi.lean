/-! the whole state of both -/
def by8 (b : Nat) : Int32 := if b < 128 then nI b else nI b - nI 256
def TP (m : Me) (L : Nat) (b : Nat → Nat) : Prop := L ≤ 900 ∧ m.1 0 2 = nI L ∧ m.1 138 2 = nI L ∧ ∀ k, k < L → b k < 256 ∧ m.1 139 k = nI (b k) ∧ m.1 2 k = by8 (b k)
/-- what the class's act i takes back: s' becomes s -/
def AC (m : Me) (r : Nat → Nat) (i : Nat) (s s' : Nat → Nat) : Prop :=
  (∃ side rib c, side ≤ 1 ∧ rib < r 0 ∧ c < r 1 ∧ m.1 85 i = nI 0 ∧ m.1 86 i = nI (side * 30 + (r 1 * rib + c)) ∧ m.1 87 i = nI (s (30 * side + (3 * rib + c))) ∧ ∀ k, k < 62 → k ≠ 30 * side + (3 * rib + c) → s k = s' k)
  ∨ (m.1 85 i = nI 1 ∧ m.1 87 i = nI (s 60) ∧ ∀ k, k < 62 → k ≠ 60 → s k = s' k)
  ∨ (m.1 85 i = nI 2 ∧ m.1 87 i = nI (s 61) ∧ ∀ k, k < 62 → k ≠ 61 → s k = s' k)
def UN (m : Me) (r s : Nat → Nat) (U : Nat) (ss : Nat → Nat → Nat) : Prop := U ≤ 16 ∧ m.1 84 3 = nI U ∧ m.1 138 21 = nI U ∧ (∀ k, k < 62 → ss U k = s k) ∧ ∀ i, i < U → OKs r (ss i) ∧ (∀ k, k < 62 → m.1 145 (62 * i + k) = nI (ss i k)) ∧ AC m r i (ss i) (ss (i + 1))
def IM (m : Me) (r : Nat → Nat) (A : Nat) (im : Nat → Nat → Nat) : Prop := A ≤ 3 ∧ m.1 0 7 = nI A ∧ m.1 138 22 = nI A ∧ ∀ i, i < A → OKs r (im i) ∧ CPs m (132 + 2 * i) r (im i) ∧ ∀ k, k < 62 → m.1 146 (62 * i + k) = nI (im i k)
def NF (m : Me) : Prop := (∀ j, (j = 0 ∨ j = 1 ∨ j = 3 ∨ j = 7 ∨ j = 9 ∨ j = 11 ∨ j = 13) → m.1 (rr m 0 3) j = nI 0) ∧ m.1 81 2 = nI 0
def FT (m : Me) (T : Nat) : Prop := T ≤ 6 ∧ m.1 0 16 = nI T ∧ m.1 138 11 = nI T ∧ m.1 138 9 = m.1 1 8 ∧ (T = 4 → m.1 138 10 = m.1 1 9)
def WJ (m : Me) (H : Bool) (r s : Nat → Nat) : Prop := JC m H r s ∧ JM m H r s ∧ JO H r s ∧ (H = true → SC m r)
def WI (m : Me) : Prop := ∃ H r s T L b U ss A im, WJ m H r s ∧ FT m T ∧ TP m L b ∧ UN m r s U ss ∧ IM m r A im ∧ (H = false → U = 0 ∧ A = 0 ∧ NF m) ∧ rr m 1 2 ≠ rr m 0 3
theorem dj_of {m m' : Me} (hD : rr m 1 2 ≠ rr m 0 3) (e2 : ∀ a j, a ≠ 98 → m'.2 a j = m.2 a j) : rr m' 1 2 ≠ rr m' 0 3 := by
  unfold Jvm.Pilot.CFanPartsLaw_law_r1864_615eae.rr at hD ⊢
  rw [e2 1 2 (by decide), e2 0 3 (by decide)]
  exact hD
section CG
variable {m m' : Me} {r s s' : Nat → Nat}
theorem TP.cg {L : Nat} {b : Nat → Nat} (h : TP m L b) (e : ∀ a j, (a = 0 ∧ j = 2 ∨ a = 138 ∧ j = 2 ∨ a = 139 ∨ a = 2) → m'.1 a j = m.1 a j) : TP m' L b := ⟨h.1, (e 0 2 (by omega)).trans h.2.1, (e 138 2 (by omega)).trans h.2.2.1, fun k hk => ⟨(h.2.2.2 k hk).1, (e 139 k (by omega)).trans (h.2.2.2 k hk).2.1, (e 2 k (by omega)).trans (h.2.2.2 k hk).2.2⟩⟩
theorem AC.cg {i i' : Nat} (h : AC m r i s s') (e5 : m'.1 85 i' = m.1 85 i) (e6 : m'.1 86 i' = m.1 86 i) (e7 : m'.1 87 i' = m.1 87 i) : AC m' r i' s s' := by
  unfold AC at h ⊢
  rw [e5, e6, e7]
  exact h
theorem AC.ex {i : Nat} {s'' : Nat → Nat} (h : AC m r i s s') (e : ∀ k, k < 62 → s' k = s'' k) : AC m r i s s'' := by
  rcases h with ⟨side, rib, c, h1, h2, h3, h4, h5, h6, h7⟩ | ⟨h1, h2, h3⟩ | ⟨h1, h2, h3⟩
  · exact Or.inl ⟨side, rib, c, h1, h2, h3, h4, h5, h6, fun k hk hn => (h7 k hk hn).trans (e k hk)⟩
  · exact Or.inr (Or.inl ⟨h1, h2, fun k hk hn => (h3 k hk hn).trans (e k hk)⟩)
  · exact Or.inr (Or.inr ⟨h1, h2, fun k hk hn => (h3 k hk hn).trans (e k hk)⟩)
theorem UN.cg {U : Nat} {ss : Nat → Nat → Nat} (h : UN m r s U ss) (e : ∀ a j, (84 ≤ a ∧ a ≤ 87 ∨ a = 145 ∨ a = 138 ∧ j = 21) → m'.1 a j = m.1 a j) : UN m' r s U ss := by
  obtain ⟨h1, h2, h3, h4, h5⟩ := h
  refine ⟨h1, (e 84 3 (by omega)).trans h2, (e 138 21 (by omega)).trans h3, h4, fun i hi => ?_⟩
  obtain ⟨a, b, c⟩ := h5 i hi
  exact ⟨a, fun k hk => (e 145 _ (by omega)).trans (b k hk), c.cg (e 85 i (by omega)) (e 86 i (by omega)) (e 87 i (by omega))⟩
theorem CPs.cg {p : Nat} (h : CPs m p r s) (e : ∀ a j, (a = p ∨ a = p + 1) → m'.1 a j = m.1 a j) : CPs m' p r s := ⟨fun side rib c x y z => (e _ _ (Or.inr rfl)).trans (h.1 side rib c x y z), (e _ _ (Or.inl rfl)).trans h.2.1, (e _ _ (Or.inl rfl)).trans h.2.2.1, fun k hk hn => (e _ _ (Or.inr rfl)).trans (h.2.2.2 k hk hn)⟩
theorem CPs.mv {p p' : Nat} (h : CPs m p r s) (e1 : m'.1 p' 1 = m.1 p 1) (e2 : m'.1 p' 2 = m.1 p 2) (e : ∀ j, j < 60 → m'.1 (p' + 1) j = m.1 (p + 1) j) (hf : z_fan r) : CPs m' p' r s := by
  refine ⟨fun side rib c x y z => (e _ ?_).trans (h.1 side rib c x y z), e1.trans h.2.1, e2.trans h.2.2.1, fun k hk hn => (e _ hk).trans (h.2.2.2 k hk hn)⟩
  obtain ⟨f0, f1, f2, f3, f4⟩ := hf
  have : r 1 * rib ≤ 3 * rib := Nat.mul_le_mul_right _ f3
  omega
theorem IM.cg {A : Nat} {im : Nat → Nat → Nat} (h : IM m r A im) (e : ∀ a j, (a = 0 ∧ j = 7 ∨ a = 138 ∧ j = 22 ∨ 132 ≤ a ∧ a ≤ 137 ∨ a = 146) → m'.1 a j = m.1 a j) : IM m' r A im := by
  obtain ⟨h1, h2, h3, h4⟩ := h
  refine ⟨h1, (e 0 7 (by omega)).trans h2, (e 138 22 (by omega)).trans h3, fun i hi => ?_⟩
  obtain ⟨a, b, c⟩ := h4 i hi
  exact ⟨a, b.cg (fun a j q => e a j (by omega)), fun k hk => (e 146 _ (by omega)).trans (c k hk)⟩
theorem NF.cg (h : NF m) (hk : kd (rr m 0 3) = 2) (e : ∀ a j, (a = 3 ∨ a = 42 ∨ a = 81 ∧ j = 2) → m'.1 a j = m.1 a j) (e2 : m'.2 0 3 = m.2 0 3) : NF m' := by
  have hr : rr m' 0 3 = rr m 0 3 := by
    unfold Jvm.Pilot.CFanPartsLaw_law_r1864_615eae.rr
    rw [e2]
  have ht := kd2_two hk
  refine ⟨fun j hj => ?_, (e 81 2 (by omega)).trans h.2⟩
  rw [hr, e _ j (by omega)]
  exact h.1 j hj
theorem SC.cg (h : SC m r) (e : ∀ a j, 94 ≤ a → a ≤ 95 → m'.1 a j = m.1 a j) : SC m' r := ⟨fun side rib c x y z => (e _ _ (by omega) (by omega)).trans (h.1 side rib c x y z), fun k hk hn => (e _ _ (by omega) (by omega)).trans (h.2.1 k hk hn), (e _ _ (by omega) (by omega)).trans h.2.2⟩
theorem SY.cg {a : Nat} {w : List Nat} (h : SY m a w) (e : ∀ b j, (b = a ∨ b = a + 1) → m'.1 b j = m.1 b j) : SY m' a w := ⟨(e _ _ (Or.inl rfl)).trans h.1, fun k hk => (e _ _ (Or.inr rfl)).trans (h.2 k hk)⟩
theorem CT.cg {t : Nat} (h : CT m t r) (ho : OKr r) (e : ∀ a j, t ≤ a → a ≤ t + 38 → m'.1 a j = m.1 a j) : CT m' t r := by
  obtain ⟨⟨c0, c1, c3⟩, ⟨d2, d7, d9, d11, d13⟩, hw, hi, hq, hb⟩ := h
  have h5 := ho.2.2.2.1
  have h6 := ho.2.2.2.2.1
  have h7 := ho.2.2.2.2.2.1
  have a1 : ∀ d j, d ≤ 38 → m'.1 (t + d) j = m.1 (t + d) j := fun d j hd => e _ _ (by omega) (by omega)
  have a0 : ∀ j, m'.1 t j = m.1 t j := fun j => a1 0 j (by omega)
  refine ⟨⟨(a0 0).trans c0, (a0 1).trans c1, (a0 3).trans c3⟩, ⟨(a0 2).trans d2, (a0 7).trans d7, (a0 9).trans d9, (a0 11).trans d11, (a0 13).trans d13⟩, fun w x => (hw w x).cg (fun b j q => e b j (by omega) (by omega)), fun i x => ?_, fun q x => ?_, fun b x => (a1 6 b (by omega)).trans (hb b x)⟩
  · obtain ⟨q1, q2, q3⟩ := hi i x
    exact ⟨q1.cg (fun b j q => e b j (by omega) (by omega)), (e _ _ (by omega) (by omega)).trans q2, (e _ _ (by omega) (by omega)).trans q3⟩
  · obtain ⟨q1, q2, q3, q4⟩ := hq q x
    exact ⟨q1.cg (fun b j q => e b j (by omega) (by omega)), (e _ _ (by omega) (by omega)).trans q2, (e _ _ (by omega) (by omega)).trans q3, (e _ _ (by omega) (by omega)).trans q4⟩
theorem JM.cg {H : Bool} (h : JM m H r s) (e : ∀ a j, (a = 138 ∧ j = 14 ∨ a = 141 ∨ a = 143) → m'.1 a j = m.1 a j) : JM m' H r s := ⟨(e 138 14 (by omega)).trans h.1, fun q => ⟨fun k hk => (e 141 k (by omega)).trans ((h.2 q).1 k hk), fun k hk => (e 143 k (by omega)).trans ((h.2 q).2 k hk)⟩⟩
theorem scr_f {a j : Nat} (h : (a = 0 ∧ j ≠ 16) ∨ (1 ≤ a ∧ a ≤ 87) ∨ (94 ≤ a ∧ a ≤ 95) ∨ (132 ≤ a ∧ a ≤ 137) ∨ (a = 138 ∧ (j = 2 ∨ j = 9 ∨ j = 10 ∨ j = 14 ∨ j = 21 ∨ j = 22)) ∨ (139 ≤ a ∧ a ≤ 146)) : scr a j = false := by
  unfold scr
  simp only [Bool.or_eq_false_iff, Bool.and_eq_false_iff, beq_eq_false_iff_ne, decide_eq_false_iff_not]
  omega
end CG
/-- only rows that are used anew, and the trouble, have changed -/
theorem WI.sc {m m' : Me} (hI : Inv m) (hW : WI m) (hA : Ag m m') {T : Nat} (t1 : m'.1 0 16 = nI T) (t2 : m'.1 138 11 = nI T) (hT : T ≤ 6 ∧ T ≠ 4) : WI m' := by
  obtain ⟨H, r, s, T0, L, b, U, ss, A, im, ⟨hC, hM, hO, hS⟩, hF, hT', hU, hA', hN, hD⟩ := hW
  have e : ∀ a j, (a = 0 ∧ j ≠ 16) ∨ (1 ≤ a ∧ a ≤ 87) ∨ (94 ≤ a ∧ a ≤ 95) ∨ (132 ≤ a ∧ a ≤ 137) ∨ (a = 138 ∧ (j = 2 ∨ j = 9 ∨ j = 10 ∨ j = 14 ∨ j = 21 ∨ j = 22)) ∨ (139 ≤ a ∧ a ≤ 146) → m'.1 a j = m.1 a j := fun a j q => hA.1 a j (scr_f q)
  refine ⟨H, r, s, T, L, b, U, ss, A, im, ⟨hC.ag hO (ivT hI).2 hA, hM.ag hA, hO, fun q => (hS q).cg (fun a j _ _ => e a j (by omega))⟩, ⟨hT.1, t1, t2, ?_, fun q => absurd q hT.2⟩, hT'.cg (fun a j q => e a j (by omega)), hU.cg (fun a j q => e a j (by omega)), hA'.cg (fun a j q => e a j (by omega)), fun q => ?_, dj_of hD hA.2⟩
  · rw [e 138 9 (by omega), e 1 8 (by omega)]
    exact hF.2.2.2.1
  · obtain ⟨q1, q2, q3⟩ := hN q
    exact ⟨q1, q2, q3.cg (ivT hI).2 (fun a j q => e a j (by omega)) (hA.2 0 3 (by decide))⟩
def Two (f g : Me → Option (Int32 × Me)) (m : Me) : Prop := ∃ V m1 m2, f m = some (V, m1) ∧ g m1 = some (V, m2) ∧ WI m2
theorem Both.two {m : Me} {f g : Me → Option (Int32 × Me)} (hI : Inv m) (hW : WI m) (h : Both f g m) : Two f g m := by
  obtain ⟨V, T, ⟨m1, e1, a1, t1, hT⟩, h2⟩ := h
  obtain ⟨m2, e2, a2, t2⟩ := h2 m1 a1
  exact ⟨V, m1, m2, e1, e2, hW.sc hI (a1.agC.tr a2.agM) ((a2.1 0 16 (by decide)).trans t1) t2 hT⟩
/-- the painting and the acts have changed, too -/
theorem WI.act {m m' : Me} {r s s' : Nat → Nat} {L U A : Nat} {b : Nat → Nat} {im ss : Nat → Nat → Nat} (hk : kd (rr m 0 3) = 2) (hD : rr m 1 2 ≠ rr m 0 3) (hJ : WJ m true r s) (hF : m.1 138 9 = m.1 1 8) (hT : TP m L b) (hA : IM m r A im)
    (e : ∀ a j, scr a j = false → ¬ (81 ≤ a ∧ a ≤ 82) → ¬ (84 ≤ a ∧ a ≤ 87) → a ≠ 143 → a ≠ 145 → ¬ (a = 138 ∧ j = 21) → m'.1 a j = m.1 a j) (e2 : ∀ a j, a ≠ 98 → m'.2 a j = m.2 a j)
    (hP : CPs m' 81 r s') (hM' : MS m' s') (ho : OKs r s') (hU : UN m' r s' U ss) (t1 : m'.1 0 16 = nI 0) (t2 : m'.1 138 11 = nI 0) : WI m' := by
  obtain ⟨hC, hM, hO, hS⟩ := hJ
  have e' : ∀ a j, ((a = 0 ∧ j ≠ 16) ∨ (1 ≤ a ∧ a ≤ 80) ∨ (94 ≤ a ∧ a ≤ 95) ∨ (132 ≤ a ∧ a ≤ 137) ∨ (a = 138 ∧ (j = 2 ∨ j = 9 ∨ j = 10 ∨ j = 14 ∨ j = 22)) ∨ (139 ≤ a ∧ a ≤ 142) ∨ a = 144 ∨ a = 146) → m'.1 a j = m.1 a j := fun a j q => e a j (scr_f (by omega)) (by omega) (by omega) (by omega) (by omega) (by omega)
  have hr : rr m' 0 3 = rr m 0 3 := by
    unfold Jvm.Pilot.CFanPartsLaw_law_r1864_615eae.rr
    rw [e2 0 3 (by decide)]
  have ht := kd2_two hk
  refine ⟨true, r, s', 0, L, b, U, ss, A, im, ⟨⟨(e' 0 4 (by omega)).trans hC.1, fun q => ⟨?_, hP⟩⟩, ⟨(e' 138 14 (by omega)).trans hM.1, fun q => ⟨fun k hk => (e' 141 k (by omega)).trans ((hM.2 q).1 k hk), hM'⟩⟩, fun q => ⟨(hO rfl).1, ho⟩, fun q => (hS q).cg (fun a j _ _ => e' a j (by omega))⟩, ⟨by omega, t1, t2, ?_, fun q => absurd q (by omega)⟩, hT.cg (fun a j q => e' a j (by omega)), hU, hA.cg (fun a j q => e' a j (by omega)), fun q => absurd q (by decide), dj_of hD e2⟩
  · rw [hr]
    exact (hC.2 q).1.cg (hO rfl).1 (fun a j x y => e' a j (by omega))
  · rw [e' 138 9 (by omega), e' 1 8 (by omega)]
    exact hF
theorem UN.act {m m2 : Me} {r s s' : Nat → Nat} {U u e : Nat} {ss : Nat → Nat → Nat} (h : UN m r s U ss) (ho : OKs r s) (hue : U < 16 ∧ u = U ∧ e = 0 ∨ U = 16 ∧ u = 15 ∧ e = 1) (a1 : m2.1 84 3 = nI (u + 1)) (a2 : m2.1 138 21 = nI (u + 1)) (a3 : ∀ i, i < u → m2.1 85 i = m.1 85 (i + e) ∧ m2.1 86 i = m.1 86 (i + e) ∧ m2.1 87 i = m.1 87 (i + e)) (a4 : ∀ k, k < 62 → m2.1 145 (62 * u + k) = nI (s k)) (a5 : ∀ i k, i < u → k < 62 → m2.1 145 (62 * i + k) = m.1 145 (62 * (i + e) + k)) (a6 : AC m2 r u s s') : UN m2 r s' (u + 1) (fun i => if i < u then ss (i + e) else if i = u then s else s') := by
  obtain ⟨h1, h2, h3, h4, h5⟩ := h
  have hu : u + e = U := by omega
  refine ⟨by omega, a1, a2, fun k hk => ?_, fun i hi => ?_⟩
  · show (if u + 1 < u then ss (u + 1 + e) else if u + 1 = u then s else s') k = s' k
    rw [if_neg (by omega), if_neg (by omega)]
  · by_cases q : i < u
    · obtain ⟨b1, b2, b3⟩ := h5 (i + e) (by omega)
      obtain ⟨c1, c2, c3⟩ := a3 i q
      dsimp only
      rw [if_pos q]
      refine ⟨b1, fun k hk => (a5 i k q hk).trans (b2 k hk), ?_⟩
      have b4 := b3.cg c1 c2 c3
      by_cases q2 : i + 1 < u
      · rw [if_pos q2, show i + 1 + e = i + e + 1 by omega]
        exact b4
      · rw [if_neg q2, if_pos (by omega)]
        refine b4.ex (fun k hk => ?_)
        rw [show i + e + 1 = U by omega]
        exact h4 k hk
    · have : i = u := by omega
      subst this
      dsimp only
      rw [if_neg q, if_pos rfl, if_neg (by omega), if_neg (by omega)]
      exact ⟨ho, a4, a6⟩
theorem ns16 {a j : Nat} (h : scr a j = false) : ¬ (a = 0 ∧ j = 16) := by
  rintro ⟨rfl, rfl⟩
  exact absurd h (by decide)
theorem fin_act {m mk m1 mb mn m2 : Me} {r s s' : Nat → Nat} {L U A : Nat} {b : Nat → Nat} {im ss : Nat → Nat → Nat} {k p v : Int32} {u e u' e' : Nat} (hk : kd (rr m 0 3) = 2) (hD : rr m 1 2 ≠ rr m 0 3) (hJ : WJ m true r s) (hF : m.1 138 9 = m.1 1 8) (hT : TP m L b) (hU : UN m r s U ss) (hA : IM m r A im)
    (k1 : ∀ b j, (b < 84 ∨ 87 < b) → mk.1 b j = m.1 b j) (k2 : mk.2 = m.2) (hue : U < 16 ∧ u = U ∧ e = 0 ∨ U = 16 ∧ u = 15 ∧ e = 1) (k3 : mk.1 84 3 = nI (u + 1)) (k4 : mk.1 85 u = k ∧ mk.1 86 u = p ∧ mk.1 87 u = v) (k5 : ∀ i, i < u → mk.1 85 i = m.1 85 (i + e) ∧ mk.1 86 i = m.1 86 (i + e) ∧ mk.1 87 i = m.1 87 (i + e))
    (p1 : ∀ a j, ¬ (81 ≤ a ∧ a ≤ 82) → scr a j = false → m1.1 a j = mk.1 a j) (p2 : ∀ a j, a ≠ 98 → m1.2 a j = mk.2 a j) (hP : CPs m1 81 r s') (q1 : Ag m1 mb)
    (n1 : ∀ b j, b ≠ 145 → ¬ (b = 138 ∧ j = 21) → mn.1 b j = mb.1 b j) (n2 : mn.2 = mb.2) (hue' : U < 16 ∧ u' = U ∧ e' = 0 ∨ U = 16 ∧ u' = 15 ∧ e' = 1) (n3 : mn.1 138 21 = nI (u' + 1)) (n4 : ∀ k, k < 62 → mn.1 145 (62 * u' + k) = nI (s k)) (n5 : ∀ i k, i < u' → k < 62 → mn.1 145 (62 * i + k) = mb.1 145 (62 * (i + e') + k))
    (w1 : ∀ a j, scr a j = false → a ≠ 143 → m2.1 a j = mn.1 a j) (w2 : ∀ a j, a ≠ 98 → m2.2 a j = mn.2 a j) (hM : MS m2 s') (ho : OKs r s') (hac : m2.1 85 u = k → m2.1 86 u = p → m2.1 87 u = v → AC m2 r u s s') (t1 : m2.1 0 16 = nI 0) (t2 : m2.1 138 11 = nI 0) : WI m2 := by
  obtain rfl : u' = u := by omega
  obtain rfl : e' = e := by omega
  have c1 : ∀ a j, scr a j = false → a ≠ 143 → a ≠ 145 → ¬ (a = 138 ∧ j = 21) → m2.1 a j = m1.1 a j := fun a j z1 z2 z3 z4 => (w1 a j z1 z2).trans ((n1 a j z3 z4).trans (q1.1 a j z1))
  have c2 : ∀ a j, scr a j = false → ¬ (81 ≤ a ∧ a ≤ 82) → a ≠ 143 → a ≠ 145 → ¬ (a = 138 ∧ j = 21) → m2.1 a j = mk.1 a j := fun a j z1 z0 z2 z3 z4 => (c1 a j z1 z2 z3 z4).trans (p1 a j z0 z1)
  have c3 : ∀ a j, 84 ≤ a → a ≤ 87 → m2.1 a j = mk.1 a j := fun a j z1 z2 => c2 a j (scr_f (by omega)) (by omega) (by omega) (by omega) (by omega)
  refine WI.act hk hD hJ hF hT hA (fun a j z1 z2 z3 z4 z5 z6 => (c2 a j z1 z2 z4 z5 z6).trans (k1 a j (by omega))) ?_ (hP.cg (fun a j q => c1 a j (scr_f (by omega)) (by omega) (by omega) (by omega))) hM ho (hU.act (hJ.2.2.1 rfl).2 hue ((c3 84 3 (by omega) (by omega)).trans k3) ((w1 138 21 (scr_f (by omega)) (by omega)).trans n3) (fun i hi => ?_) (fun k hk => (w1 145 _ (scr_f (by omega)) (by omega)).trans (n4 k hk)) (fun i k hi hk => ?_) (hac ((c3 85 _ (by omega) (by omega)).trans k4.1) ((c3 86 _ (by omega) (by omega)).trans k4.2.1) ((c3 87 _ (by omega) (by omega)).trans k4.2.2))) t1 t2
  · exact fun a j h => by rw [w2 a j h, n2, q1.2 a j h, p2 a j h, k2]
  · obtain ⟨z1, z2, z3⟩ := k5 i hi
    exact ⟨(c3 85 _ (by omega) (by omega)).trans z1, (c3 86 _ (by omega) (by omega)).trans z2, (c3 87 _ (by omega) (by omega)).trans z3⟩
  · rw [w1 145 _ (scr_f (by omega)) (by omega), n5 i k hi hk, q1.1 145 _ (scr_f (by omega)), p1 145 _ (by omega) (scr_f (by omega)), k1 145 _ (by omega)]
