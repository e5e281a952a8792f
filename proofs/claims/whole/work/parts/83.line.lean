/-! lines: what both know at a line's end; the first line -/
def RC (m0 m : Me) (t N : Nat) (b : Nat → Nat) (a n κ : Nat) (bg : Bool) (r s : Nat → Nat) : Prop :=
  ((∀ x j, x ≠ 1 → ¬ (t ≤ x ∧ x ≤ t + 38) → m.1 x j = m0.1 x j) ∧ m.2 = m0.2) ∧ LC m N b a n κ ∧ m.1 1 3 = nI (HB bg) ∧ m.1 1 8 = nI 0 ∧ CT m t r ∧ m.1 t 4 = nI (r 4) ∧ CPs m (t + 1) r s
def RM (m0 m : Me) (N : Nat) (b : Nat → Nat) (a n κ : Nat) (r s : Nat → Nat) : Prop :=
  Gf m0 m ∧ LM m N b a n κ ∧ m.1 138 9 = nI 0 ∧ MR m 142 r ∧ ∀ k, k < 62 → m.1 144 k = nI (s k)
def s00 : Nat → Nat := fun k => if k < 60 then 25 else 0
def RP (bg : Bool) (r s : Nat → Nat) : Prop := (bg = false → r = (fun _ => 0) ∧ s = s00) ∧ (bg = true → OKr r ∧ OKs r s ∧ r 4 ≤ r 0 ∧ r 9 ≤ 1 ∧ (r 9 = 0 ↔ r 8 = 0))
def CX (t : Nat) (m0 : Me) (F : Option (Int32 × Me)) (nb pl : Nat) : Prop := ∃ m', F = some (nI 0, m') ∧ m'.1 1 8 = nI nb ∧ m'.1 1 9 = nI pl ∧ (∀ x j, x ≠ 1 → ¬ (t ≤ x ∧ x ≤ t + 38) → m'.1 x j = m0.1 x j) ∧ m'.2 = m0.2
def MX (m0 : Me) (G : Option Me) (nb pl : Nat) : Prop := ∃ m', G = some m' ∧ FL m' nb pl ∧ Gf m0 m'
/-- how a line ends, on both sides -/
def LO (t N : Nat) (b : Nat → Nat) (a : Nat) (c0 d0 : Me) (F : Option (Int32 × Me)) (G : Option Me) : Prop :=
  (∃ nb pl, 1 ≤ nb ∧ CX t c0 F nb pl ∧ MX d0 G nb pl) ∨
  (∃ a' n' κ' r' s' mc mm, F = some (nI 1, mc) ∧ G = some mm ∧ RC c0 mc t N b a' n' κ' true r' s' ∧ RM d0 mm N b a' n' κ' r' s' ∧ RP true r' s' ∧ a < a')
theorem flC.cx {F : Option (Int32 × Me)} {m m0 : Me} {nb pl t : Nat} (h : flC F m nb pl) (e : ∀ x j, x ≠ 1 → ¬ (t ≤ x ∧ x ≤ t + 38) → m.1 x j = m0.1 x j) (e2 : m.2 = m0.2) : CX t m0 F nb pl := by
  obtain ⟨m', q1, q2, q3, q4, q5⟩ := h
  exact ⟨m', q1, q2, q3, fun x j z1 z2 => (q4 x j z1).trans (e x j z1 z2), q5.trans e2⟩
theorem CX.eq {F F' : Option (Int32 × Me)} {m0 : Me} {nb pl t : Nat} (h : CX t m0 F nb pl) (e : ∀ m', F = some (nI 0, m') → F' = some (nI 0, m')) : CX t m0 F' nb pl := by
  obtain ⟨m', q1, q2⟩ := h
  exact ⟨m', e m' q1, q2⟩
theorem flC.eq {F F' : Option (Int32 × Me)} {m : Me} {nb pl : Nat} (h : flC F m nb pl) (e : ∀ m', F = some (nI 0, m') → F' = some (nI 0, m')) : flC F' m nb pl := by
  obtain ⟨m', q1, q2⟩ := h
  exact ⟨m', e m' q1, q2⟩
section LINE
variable {N : Nat} {b : Nat → Nat} {mc mm c0 d0 : Me} {a n κ t : Nat} {r s : Nat → Nat}
/-- a name on both sides -/
theorem u_n (hC : LC mc N b a n κ) (hM : LM mm N b a n κ) (i i' : Nat) (hi : i < 32) (hi' : i' < 32) (hs : sby.getD i [] = sby.getD i' []) :
    (flC (fX6_takeName i mc) mc 1 a ∧ fX11_must i' mm = some (wrM mm 1 a)) ∨
    (∃ a' n' κ' m1 m2, fX6_takeName i mc = some (nI 1, m1) ∧ LC m1 N b a' n' κ' ∧ Gc mc m1 ∧ fX11_must i' mm = some m2 ∧ LM m2 N b a' n' κ' ∧ Gm mm m2 ∧ a + n ≤ a') := by
  cases hb : isB b a n κ i
  · exact Or.inl ⟨tkn_0 hC hi hb, mus_0 hM hi' ((isB_cg hs).symm.trans hb)⟩
  · obtain ⟨a', n', κ', hT⟩ := Tk_ex N b hC.bd.1
    obtain ⟨m1, e1, g1, g2⟩ := tkn_1 hC hT hi hb
    obtain ⟨m2, e2, g3, g4⟩ := mus_1 hM hT hi' ((isB_cg hs).symm.trans hb)
    exact Or.inr ⟨a', n', κ', m1, m2, e1, g1, g2, e2, g3, g4, hT.1⟩
/-- a number on both sides -/
theorem u_w (hC : LC mc N b a n κ) (hM : LM mm N b a n κ) {lo hi : Nat} (hl : lo < 1000) (hh : hi < 1000) :
    (∃ nb, 1 ≤ nb ∧ flC (fX6_takeWhole (nI lo) (nI hi) mc) mc nb a ∧ fX11_number (nI lo) (nI hi) mm = some (nI lo, wrM mm nb a)) ∨
    (∃ v a' n' κ' m1 m2, lo ≤ v ∧ v ≤ hi ∧ fX6_takeWhole (nI lo) (nI hi) mc = some (nI 1, m1) ∧ LC m1 N b a' n' κ' ∧ Gc mc m1 ∧ m1.1 1 7 = nI v ∧ fX11_number (nI lo) (nI hi) mm = some (nI v, m2) ∧ LM m2 N b a' n' κ' ∧ Gm mm m2 ∧ a + n ≤ a') := by
  by_cases hk : κ = 2
  · by_cases hv : lo ≤ wv b a n ∧ wv b a n ≤ hi
    · obtain ⟨a', n', κ', hT⟩ := Tk_ex N b hC.bd.1
      obtain ⟨m1, e1, g1, g2, g5⟩ := tw_1 hC hT hl hh hk hv
      obtain ⟨m2, e2, g3, g4⟩ := num_1 hM hT hl hh hk hv
      exact Or.inr ⟨_, a', n', κ', m1, m2, hv.1, hv.2, e1, g1, g2, g5, e2, g3, g4, hT.1⟩
    · exact Or.inl ⟨4, by omega, tw_0 hC hl hh hk hv, num_0 hM hl hh hk hv⟩
  · exact Or.inl ⟨1, by omega, tw_n hC hk _ _, num_n hM hk _ _⟩
/-- a name and a number on both sides -/
theorem u_nw (hC : LC mc N b a n κ) (hM : LM mm N b a n κ) (i i' : Nat) (hj : i < 32) (hj' : i' < 32) (hs : sby.getD i [] = sby.getD i' []) {lo hi : Nat} (hl : lo < 1000) (hh : hi < 1000) :
    (∃ nb pl m2, 1 ≤ nb ∧ (flC (fX6_takeName i mc) mc nb pl ∨ ∃ m1, fX6_takeName i mc = some (nI 1, m1) ∧ Gc mc m1 ∧ flC (fX6_takeWhole (nI lo) (nI hi) m1) mc nb pl) ∧ fX11_told i' (nI lo) (nI hi) mm = some (nI lo, m2) ∧ FL m2 nb pl ∧ Gf mm m2) ∨
    (∃ v a' n' κ' m1 m2 m3, lo ≤ v ∧ v ≤ hi ∧ fX6_takeName i mc = some (nI 1, m1) ∧ fX6_takeWhole (nI lo) (nI hi) m1 = some (nI 1, m2) ∧ LC m2 N b a' n' κ' ∧ Gc mc m2 ∧ m2.1 1 7 = nI v ∧ fX11_told i' (nI lo) (nI hi) mm = some (nI v, m3) ∧ LM m3 N b a' n' κ' ∧ Gm mm m3 ∧ a + n ≤ a') := by
  rcases u_n hC hM i i' hj hj' hs with ⟨q1, q2⟩ | ⟨a1, n1, κ1, m1, m2, q1, q2, q3, q4, q5, q6, q7⟩
  · refine Or.inl ⟨1, a, wrM mm 1 a, by omega, Or.inl q1, ?_, wr_FL _ _ _, (Gf.rf mm).wr _ _⟩
    unfold fX11_told
    rw [q2, cl1_so, num_d (wr_13 _ _ _), cl2_so]
  · rcases u_w q2 q5 hl hh with ⟨nb, w0, w1, w2⟩ | ⟨v, a2, n2, κ2, m3, m4, w1, w2, w3, w4, w5, w6, w7, w8, w9, w10⟩
    · refine Or.inl ⟨nb, a1, wrM m2 nb a1, w0, Or.inr ⟨m1, q1, q3, w1.gc q3⟩, ?_, wr_FL _ _ _, (q6.gf).wr _ _⟩
      unfold fX11_told
      rw [q4, cl1_so, w2, cl2_so]
    · refine Or.inr ⟨v, a2, n2, κ2, m1, m3, m4, w1, w2, q1, w3, w4, q3.tr w5, w6, ?_, w8, q6.tr w9, by omega⟩
      unfold fX11_told
      rw [q4, cl1_so, w7, cl2_so]
def fnC (r11 : Int32) (m : Me) : Option Me := cl1 (fX11_must 20 m) fun m23 => cl2 (fX11_takes 21 m23) fun r26 m27 => if r26 = (0 : Int32) then cl1 (fX11_must 22 m27) fun m31 => fX11_fanLine_100 r11 m31 else fX11_fanLine_100 r11 (setI m27 142 3 (1 : Int32))
def fnB (r11 : Int32) (m : Me) : Option Me := cl2 (fX11_told 19 (0 : Int32) (99 : Int32) m) fun r19 m20 => fnC r11 (setI m20 142 2 r19)
def fnA (r11 : Int32) (m : Me) : Option Me := cl2 (fX11_told 18 (1 : Int32) (3 : Int32) m) fun r15 m16 => fnB r11 (setI m16 142 1 r15)
theorem fn18 (m : Me) : fX11_fanLine_18 m = if (m.1 138 13) = (0 : Int32) then cl1 (fX11_next m) fun m8 => cl2 (fX11_told 17 (2 : Int32) (10 : Int32) m8) fun r11 m12 => fnA r11 m12 else some m := rfl
theorem fnC_d {m : Me} {nb pl : Nat} (h : FL m nb pl) (x : Int32) : fnC x m = some m := by
  unfold fnC
  rw [mus_d h.1, cl1_so, tks_d h.1, cl2_so, if_pos (by decide), mus_d h.1, cl1_so]
  unfold fX11_fanLine_100 fX11_fanLine_114
  rw [h.1]
  rfl
theorem fnB_d {m : Me} {nb pl : Nat} (h : FL m nb pl) (x : Int32) : fnB x m = some (setI m 142 2 (nI 0)) := by
  unfold fnB
  rw [tld_d h.1, cl2_so]
  exact fnC_d (h.set (by decide) _ _) x
theorem fnA_d {m : Me} {nb pl : Nat} (h : FL m nb pl) (x : Int32) : fnA x m = some (setI (setI m 142 1 (nI 1)) 142 2 (nI 0)) := by
  unfold fnA
  rw [tld_d h.1, cl2_so]
  exact fnB_d (h.set (by decide) _ _) x
/-- the words even and left are not one -/
theorem even_left (h1 : isB b a n κ 5 = true) (h2 : isB b a n κ 6 = true) : False := by
  have s5 := isB_1 h1
  unfold isB at h1 h2
  rw [Bool.and_eq_true] at h1 h2
  have e1 := (z_al_iff _ _ _).mp h1.2 0 (by omega) (by rw [s5.2]; decide)
  have e2 := (z_al_iff _ _ _).mp h2.2 0 (by omega) (by rw [s5.2]; decide)
  rw [decide_eq_true_eq] at e1 e2
  exact absurd (e1.symm.trans e2) (by decide)
theorem line_fan (ht : t = 3 ∨ t = 42) (hr0 : rr c0 1 2 = t) (hC : RC c0 mc t N b a n κ false (fun _ => 0) s00) (hM : RM d0 mm N b a n κ (fun _ => 0) s00) (hk : κ ≠ 0) : LO t N b a c0 d0 (fX6_readFanLine mc) (fX11_fanLine mm) := by
  obtain ⟨⟨fr1, fr2⟩, hL, h3, h8, hCT, h4, hP⟩ := hC
  obtain ⟨hG, hLM, h9, hMR, hMS⟩ := hM
  have rrm : ∀ m : Me, m.2 = mc.2 → rr m 1 2 = t := fun m e => by
    rw [← hr0]
    unfold Jvm.Pilot.CFanPartsLaw_law_r1864_615eae.rr
    rw [e, fr2]
  have hn1 : 1 ≤ n := hL.2.2.2.2.2.1 hk
  obtain ⟨a1, n1, κ1, hT1⟩ := Tk_ex N b hL.bd.1
  have hL' : LC (setI mc 1 3 (nI 1)) N b a n κ := ⟨⟨hL.1.1, (sI_nj (by decide)).trans hL.1.2.1, fun k hk => ⟨(hL.1.2.2 k hk).1, (sI_na (by decide)).trans (hL.1.2.2 k hk).2⟩⟩, ⟨(sI_nj (by decide)).trans hL.2.1.1, (sI_nj (by decide)).trans hL.2.1.2.1, (sI_nj (by decide)).trans hL.2.1.2.2⟩, hL.2.2⟩
  obtain ⟨c1, e1, y1, y2, -⟩ := step_e hL'.1 hL'.2.1.1 hL'.2.1.2.1 rfl hL.bd.1 hT1
  have hL1 : LC c1 N b a1 n1 κ1 := hL'.gc y2 y1 hT1.to
  obtain ⟨d1, f1, hM1, z2⟩ := hLM.nx hT1
  have g0 : ∀ x j, x ≠ 1 → c1.1 x j = mc.1 x j := fun x j q => (y2.1 x j (by omega)).trans (sI_na q)
  have g0' : c1.2 = mc.2 := y2.2
  have b3 : c1.1 1 3 = nI 1 := (y2.1 1 3 (by omega)).trans (sI_eq _ _ _ _)
  have b8 : c1.1 1 8 = nI 0 := (y2.1 1 8 (by omega)).trans ((sI_nj (by decide)).trans h8)
  have eF : fX6_readFanLine mc = cl2 (fX6_takeName 1 c1) fun r7 m8 => if r7 = (0 : Int32) then fX6_readFanLine_41 m8 else cl2 (fX6_takeWhole (2 : Int32) (10 : Int32) m8) fun r12 m13 => if r12 = (0 : Int32) then fX6_readFanLine_41 m13 else cl2 (fX6_takeName 2 (setI m13 (rr m13 1 2) 0 (m13.1 1 7))) fun r18 m19 => if r18 = (0 : Int32) then fX6_readFanLine_72 m19 else cl2 (fX6_takeWhole (1 : Int32) (3 : Int32) m19) fun r23 m24 => if r23 = (0 : Int32) then fX6_readFanLine_72 m24 else cl2 (fX6_takeName 3 (setI m24 (rr m24 1 2) 1 (m24.1 1 7))) fun r29 m30 => if r29 = (0 : Int32) then fX6_readFanLine_104 m30 else cl2 (fX6_takeWhole (0 : Int32) (99 : Int32) m30) fun r34 m35 => if r34 = (0 : Int32) then fX6_readFanLine_104 m35 else cl2 (fX6_takeName 4 (setI m35 (rr m35 1 2) 2 (m35.1 1 7))) fun r40 m41 => if r40 = (0 : Int32) then fX6_readFanLine_137 m41 else cl2 (fX6_takeOneOf 5 6 m41) fun r45 m46 => if r45 = (0 : Int32) then fX6_readFanLine_137 m46 else if (m46.1 1 7) = (1 : Int32) then fX6_readFanLine_156 (1 : Int32) (rr m46 1 2) m46 else fX6_readFanLine_156 (0 : Int32) (rr m46 1 2) m46 := by
    unfold fX6_readFanLine
    have h3' : mc.1 1 3 = nI 0 := h3
    have e1' : fX6_step (setI mc 1 3 1) = some c1 := e1
    rw [h3', if_pos (by decide), e1', cl1_so]
  have eG : fX11_fanLine mm = cl2 (fX11_told 17 (2 : Int32) (10 : Int32) d1) fun r11 m12 => fnA r11 m12 := by
    unfold fX11_fanLine
    rw [hMR 0 (by omega), if_pos (by decide), fn18, hLM.2.2.2, if_pos (by decide), f1, cl1_so]
  -- the ribs
  rcases u_nw hL1 hM1 1 17 (by decide) (by decide) (by decide) (lo := 2) (hi := 10) (by decide) (by decide) with ⟨nb, pl, m2, u0, u1, u2, u3, u4⟩ | ⟨R, a2, n2, κ2, c2, c3, d2, u1, u2, u3, u4, u5, u6, u7, u8, u9, u10, u11⟩
  · refine Or.inl ⟨nb, pl, u0, ?_, _, (by rw [eG]; exact Eq.trans (cl2_e u2) (fnA_d u3 _)), (u3.set (by decide) _ _).set (by decide) _ _, ((hG.tr (z2.gf.tr u4)).set (by omega) _ _).set (by omega) _ _⟩
    rcases u1 with u1 | ⟨m1, u5, u6, u7⟩
    · refine (u1.cx (t := t) (m0 := c0) (fun x j q1 q2 => (g0 x j q1).trans (fr1 x j q1 q2)) (g0'.trans fr2)).eq (fun m' e => ?_)
      rw [eF, e, cl2_so]
      rfl
    · refine (u7.cx (t := t) (m0 := c0) (fun x j q1 q2 => (g0 x j q1).trans (fr1 x j q1 q2)) (g0'.trans fr2)).eq (fun m' e => ?_)
      rw [eF, u5, cl2_so, if_neg (by decide)]
      refine Eq.trans (cl2_e e) ?_
      rfl
  have r3 : rr c3 1 2 = t := rrm c3 (u6.2.trans g0')
  have hL3 : LC (setI c3 t 0 (nI R)) N b a2 n2 κ2 := ⟨⟨u5.1.1, (sI_na (by omega)).trans u5.1.2.1, fun k hk => ⟨(u5.1.2.2 k hk).1, (sI_na (by omega)).trans (u5.1.2.2 k hk).2⟩⟩, ⟨(sI_na (by omega)).trans u5.2.1.1, (sI_na (by omega)).trans u5.2.1.2.1, (sI_na (by omega)).trans u5.2.1.2.2⟩, u5.2.2⟩
  -- the width
  rcases u_nw hL3 u9 2 18 (by decide) (by decide) (by decide) (lo := 1) (hi := 3) (by decide) (by decide) with ⟨nb, pl, m2, v0, v1, v2, v3, v4⟩ | ⟨W, a3, n3, κ3, c4, c5, d3, v1, v2, v3, v4, v5, v6, v7, v8, v9, v10, v11⟩
  · refine Or.inl ⟨nb, pl, v0, ?_, _, (by rw [eG]; exact (cl2_e u8).trans (Eq.trans (cl2_e v2) (fnB_d (v3.set (by decide) _ _) _))), (v3.set (by decide) _ _).set (by decide) _ _, ((hG.tr (z2.gf.tr (u10.gf.tr v4))).set (by omega) _ _).set (by omega) _ _⟩
    have k1 : ∀ x j, x ≠ 1 → ¬ (t ≤ x ∧ x ≤ t + 38) → (setI c3 t 0 (nI R)).1 x j = c0.1 x j := fun x j q1 q2 => (sI_na (by omega)).trans ((u6.1 x j (by omega)).trans ((g0 x j q1).trans (fr1 x j q1 q2)))
    rcases v1 with v1 | ⟨m1, v5, v6, v7⟩
    · refine (v1.cx (t := t) (m0 := c0) k1 (u6.2.trans (g0'.trans fr2))).eq (fun m' e => ?_)
      rw [eF, u3, cl2_so, if_neg (by decide)]
      refine Eq.trans (cl2_e u4) ?_
      rw [if_neg (by decide), r3, u7]
      refine Eq.trans (cl2_e e) ?_
      rfl
    · refine (v7.cx (t := t) (m0 := c0) k1 (u6.2.trans (g0'.trans fr2))).eq (fun m' e => ?_)
      rw [eF, u3, cl2_so, if_neg (by decide)]
      refine Eq.trans (cl2_e u4) ?_
      rw [if_neg (by decide), r3, u7]
      refine Eq.trans (cl2_e v5) ?_
      rw [if_neg (by decide)]
      refine Eq.trans (cl2_e e) ?_
      rfl
  have r5 : rr c5 1 2 = t := rrm c5 (v6.2.trans (u6.2.trans g0'))
  have hL5 : LC (setI c5 t 1 (nI W)) N b a3 n3 κ3 := ⟨⟨v5.1.1, (sI_na (by omega)).trans v5.1.2.1, fun k hk => ⟨(v5.1.2.2 k hk).1, (sI_na (by omega)).trans (v5.1.2.2 k hk).2⟩⟩, ⟨(sI_na (by omega)).trans v5.2.1.1, (sI_na (by omega)).trans v5.2.1.2.1, (sI_na (by omega)).trans v5.2.1.2.2⟩, v5.2.2⟩
  have hM3 : LM (setI d3 142 1 (nI W)) N b a3 n3 κ3 := v9.tb (fun x j z => sI_na (by omega))
  -- the price
  rcases u_nw hL5 hM3 3 19 (by decide) (by decide) (by decide) (lo := 0) (hi := 99) (by decide) (by decide) with ⟨nb, pl, m2, w0, w1, w2, w3, w4⟩ | ⟨P, a4, n4, κ4, c6, c7, d4, w1, w2, w3, w4, w5, w6, w7, w8, w9, w10, w11⟩
  · refine Or.inl ⟨nb, pl, w0, ?_, _, (by rw [eG]; exact (cl2_e u8).trans ((cl2_e v8).trans (Eq.trans (cl2_e w2) (fnC_d (w3.set (by decide) _ _) _)))), w3.set (by decide) _ _, (hG.tr (z2.gf.tr (u10.gf.tr (((v10.gf).set (by omega) _ _).tr w4)))).set (by omega) _ _⟩
    have k1 : ∀ x j, x ≠ 1 → ¬ (t ≤ x ∧ x ≤ t + 38) → (setI c5 t 1 (nI W)).1 x j = c0.1 x j := fun x j q1 q2 => (sI_na (by omega)).trans ((v6.1 x j (by omega)).trans ((sI_na (by omega)).trans ((u6.1 x j (by omega)).trans ((g0 x j q1).trans (fr1 x j q1 q2)))))
    have k2 : (setI c5 t 1 (nI W)).2 = c0.2 := v6.2.trans (u6.2.trans (g0'.trans fr2))
    rcases w1 with w1 | ⟨m1, w5, w6, w7⟩
    · refine (w1.cx (t := t) (m0 := c0) k1 k2).eq (fun m' e => ?_)
      rw [eF, u3, cl2_so, if_neg (by decide)]
      refine Eq.trans (cl2_e u4) ?_
      rw [if_neg (by decide), r3, u7]
      refine Eq.trans (cl2_e v3) ?_
      rw [if_neg (by decide)]
      refine Eq.trans (cl2_e v4) ?_
      rw [if_neg (by decide), r5, v7]
      refine Eq.trans (cl2_e e) ?_
      rfl
    · refine (w7.cx (t := t) (m0 := c0) k1 k2).eq (fun m' e => ?_)
      rw [eF, u3, cl2_so, if_neg (by decide)]
      refine Eq.trans (cl2_e u4) ?_
      rw [if_neg (by decide), r3, u7]
      refine Eq.trans (cl2_e v3) ?_
      rw [if_neg (by decide)]
      refine Eq.trans (cl2_e v4) ?_
      rw [if_neg (by decide), r5, v7]
      refine Eq.trans (cl2_e w5) ?_
      rw [if_neg (by decide)]
      refine Eq.trans (cl2_e e) ?_
      rfl
  have r7 : rr c7 1 2 = t := rrm c7 (w6.2.trans (v6.2.trans (u6.2.trans g0')))
  have hL7 : LC (setI c7 t 2 (nI P)) N b a4 n4 κ4 := ⟨⟨w5.1.1, (sI_na (by omega)).trans w5.1.2.1, fun k hk => ⟨(w5.1.2.2 k hk).1, (sI_na (by omega)).trans (w5.1.2.2 k hk).2⟩⟩, ⟨(sI_na (by omega)).trans w5.2.1.1, (sI_na (by omega)).trans w5.2.1.2.1, (sI_na (by omega)).trans w5.2.1.2.2⟩, w5.2.2⟩
  have hM5 : LM (setI d4 142 2 (nI P)) N b a4 n4 κ4 := w9.tb (fun x j z => sI_na (by omega))
  have k1 : ∀ x j, x ≠ 1 → ¬ (t ≤ x ∧ x ≤ t + 38) → (setI c7 t 2 (nI P)).1 x j = c0.1 x j := fun x j q1 q2 => (sI_na (by omega)).trans ((w6.1 x j (by omega)).trans ((sI_na (by omega)).trans ((v6.1 x j (by omega)).trans ((sI_na (by omega)).trans ((u6.1 x j (by omega)).trans ((g0 x j q1).trans (fr1 x j q1 q2)))))))
  have k2 : (setI c7 t 2 (nI P)).2 = c0.2 := w6.2.trans (v6.2.trans (u6.2.trans (g0'.trans fr2)))
  have hG5 : Gf d0 (setI d4 142 2 (nI P)) := (hG.tr (z2.gf.tr (u10.gf.tr (((v10.gf).set (by omega) _ _).tr w10.gf)))).set (by omega) _ _
  have eF2 : fX6_readFanLine mc = cl2 (fX6_takeName 4 (setI c7 t 2 (nI P))) fun r40 m41 => if r40 = (0 : Int32) then fX6_readFanLine_137 m41 else cl2 (fX6_takeOneOf 5 6 m41) fun r45 m46 => if r45 = (0 : Int32) then fX6_readFanLine_137 m46 else if (m46.1 1 7) = (1 : Int32) then fX6_readFanLine_156 (1 : Int32) (rr m46 1 2) m46 else fX6_readFanLine_156 (0 : Int32) (rr m46 1 2) m46 := by
    rw [eF, u3, cl2_so, if_neg (by decide)]
    refine Eq.trans (cl2_e u4) ?_
    rw [if_neg (by decide), r3, u7]
    refine Eq.trans (cl2_e v3) ?_
    rw [if_neg (by decide)]
    refine Eq.trans (cl2_e v4) ?_
    rw [if_neg (by decide), r5, v7]
    refine Eq.trans (cl2_e w3) ?_
    rw [if_neg (by decide)]
    refine Eq.trans (cl2_e w4) ?_
    rw [if_neg (by decide), r7, w7]
  have eG2 : fX11_fanLine mm = fnC (nI R) (setI d4 142 2 (nI P)) := by
    rw [eG]
    exact (cl2_e u8).trans ((cl2_e v8).trans (cl2_e w8))
  -- opens
  rcases u_n hL7 hM5 4 20 (by decide) (by decide) (by decide) with ⟨x1, x2⟩ | ⟨a5, n5, κ5, c8, d5, x1, x2, x3, x4, x5, x6, x7⟩
  · refine Or.inl ⟨1, a4, by omega, (x1.cx (t := t) (m0 := c0) k1 k2).eq (fun m' e => ?_), wrM (setI d4 142 2 (nI P)) 1 a4, ?_, wr_FL _ _ _, hG5.wr _ _⟩
    · rw [eF2]
      refine Eq.trans (cl2_e e) ?_
      rfl
    · rw [eG2]
      unfold fnC
      rw [x2, cl1_so, tks_d (wr_13 _ _ _), cl2_so, if_pos (by decide), mus_d (wr_13 _ _ _), cl1_so]
      unfold fX11_fanLine_100 fX11_fanLine_114
      rw [wr_13]
      rfl
  have c21 : isB b a5 n5 κ5 21 = isB b a5 n5 κ5 6 := isB_cg (by decide)
  have c22 : isB b a5 n5 κ5 22 = isB b a5 n5 κ5 5 := isB_cg (by decide)
  have k3 : ∀ x j, x ≠ 1 → ¬ (t ≤ x ∧ x ≤ t + 38) → c8.1 x j = c0.1 x j := fun x j q1 q2 => (x3.1 x j (by omega)).trans (k1 x j q1 q2)
  by_cases hel : isB b a5 n5 κ5 5 = true ∨ isB b a5 n5 κ5 6 = true
  · obtain ⟨a6, n6, κ6, hT6⟩ := Tk_ex N b x2.bd.1
    have hlf : ∃ lf, lf ≤ 1 ∧ lf = if isB b a5 n5 κ5 5 then 0 else 1 := ⟨_, by split <;> omega, rfl⟩
    obtain ⟨lf, lf1, lfe⟩ := hlf
    obtain ⟨c9, p1, p2, p3, p4⟩ := to_1 x2 hT6 (by decide) (by decide) lfe hel
    have r9 : rr c9 1 2 = t := rrm c9 (p3.2.trans (x3.2.trans (w6.2.trans (v6.2.trans (u6.2.trans g0')))))
    -- the reference
    have hmod : ∃ d6, fX11_fanLine mm = some (setI d6 142 0 (nI R)) ∧ LM d6 N b a6 n6 κ6 ∧ Gf d0 d6 ∧ d6.1 138 9 = nI 0 ∧ (∀ k, k < 186 → d6.1 142 k = nI (if k = 1 then W else if k = 2 then P else if k = 3 then lf else 0)) ∧ ∀ k, k < 62 → d6.1 144 k = nI (s00 k) := by
      have base : ∀ k, k < 186 → k ≠ 3 → d5.1 142 k = nI (if k = 1 then W else if k = 2 then P else 0) := fun k hk h3 => by
        rw [x6.1 142 k (by omega) (by omega), sI_1, w10.1 142 k (by omega) (by omega), sI_1, v10.1 142 k (by omega) (by omega), u10.1 142 k (by omega) (by omega), z2.1 142 k (by omega) (by omega), hMR k hk]
        by_cases q2 : k = 2
        · rw [if_pos ⟨rfl, q2⟩, if_neg (by omega), if_pos q2]
        · rw [if_neg (by omega)]
          by_cases q1 : k = 1
          · rw [if_pos ⟨rfl, q1⟩, if_pos q1]
          · rw [if_neg (by omega), if_neg q1, if_neg q2]
      have b3 : d5.1 142 3 = nI 0 := by
        rw [x6.1 142 3 (by omega) (by omega), sI_nj (by decide), w10.1 142 3 (by omega) (by omega), sI_nj (by decide), v10.1 142 3 (by omega) (by omega), u10.1 142 3 (by omega) (by omega), z2.1 142 3 (by omega) (by omega), hMR 3 (by omega)]
      have b9 : d5.1 138 9 = nI 0 := by
        rw [x6.1 138 9 (by omega) (by omega), sI_na (by decide), w10.1 138 9 (by omega) (by omega), sI_na (by decide), v10.1 138 9 (by omega) (by omega), u10.1 138 9 (by omega) (by omega), z2.1 138 9 (by omega) (by omega), h9]
      have b143 : ∀ k, k < 62 → d5.1 144 k = nI (s00 k) := fun k hk => by
        rw [x6.1 144 k (by omega) (by omega), sI_na (by decide), w10.1 144 k (by omega) (by omega), sI_na (by decide), v10.1 144 k (by omega) (by omega), u10.1 144 k (by omega) (by omega), z2.1 144 k (by omega) (by omega), hMS k hk]
      have hG6 : Gf d0 d5 := hG5.tr x6.gf
      have fin : ∀ d : Me, d.1 138 13 = nI 0 → fX11_fanLine_100 (nI R) d = some (setI d 142 0 (nI R)) := fun d hd => by
        unfold fX11_fanLine_100 fX11_fanLine_114
        rw [hd]
        rfl
      cases hc : isB b a5 n5 κ5 6
      · have hc5 : isB b a5 n5 κ5 5 = true := by rw [hc] at hel; simpa using hel
        rw [hc5] at lfe
        have lf0 : lf = 0 := lfe
        obtain ⟨d6, q1, q2, q3⟩ := mus_1 x5 hT6 (i := 22) (by decide) (c22.trans hc5)
        refine ⟨d6, ?_, q2, hG6.tr q3.gf, (q3.1 138 9 (by omega) (by omega)).trans b9, fun k hk => ?_, fun k hk => (q3.1 144 k (by omega) (by omega)).trans (b143 k hk)⟩
        · rw [eG2]
          unfold fnC
          rw [x4, cl1_so, tks_0 x5 (i := 21) (by decide) (c21.trans hc), cl2_so, if_pos (by decide), q1, cl1_so, fin d6 q2.2.2.2]
        · rw [q3.1 142 k (by omega) (by omega)]
          by_cases q3 : k = 3
          · subst q3
            rw [b3, lf0]
            rfl
          · rw [base k hk q3, if_neg q3]
      · have hc5 : isB b a5 n5 κ5 5 = false := by
          cases hq : isB b a5 n5 κ5 5
          · rfl
          · exact (even_left hq hc).elim
        rw [hc5] at lfe
        have lf0 : lf = 1 := lfe
        obtain ⟨d6, q1, q2, q3⟩ := tks_1 x5 hT6 (i := 21) (by decide) (c21.trans hc)
        refine ⟨setI d6 142 3 (nI 1), ?_, q2.tb (fun x j z => sI_na (by omega)), (hG6.tr q3.gf).set (by omega) _ _, (sI_na (by decide)).trans ((q3.1 138 9 (by omega) (by omega)).trans b9), fun k hk => ?_, fun k hk => (sI_na (by decide)).trans ((q3.1 144 k (by omega) (by omega)).trans (b143 k hk))⟩
        · rw [eG2]
          unfold fnC
          rw [x4, cl1_so, q1, cl2_so, if_neg (by decide)]
          exact fin _ ((sI_na (by decide)).trans q2.2.2.2)
        · by_cases q4 : k = 3
          · subst q4
            rw [sI_eq, lf0]
            rfl
          · rw [sI_nj q4, q3.1 142 k (by omega) (by omega), base k hk q4, if_neg q4]
    obtain ⟨d6, h1, h2, h5, h6, h7, h10⟩ := hmod
    have eFf : fX6_readFanLine mc = some (nI 1, setI c9 t 3 (nI lf)) := by
      rw [eF2]
      refine Eq.trans (cl2_e x1) ?_
      rw [if_neg (by decide)]
      refine Eq.trans (cl2_e p1) ?_
      rw [if_neg (by decide), p4, r9]
      unfold fX6_readFanLine_156
      have : lf = 0 ∨ lf = 1 := by omega
      rcases this with rfl | rfl
      · rfl
      · rfl
    have cx : ∀ x j, x ≠ 1 → ¬ (x = t ∧ j ≤ 3) → (setI c9 t 3 (nI lf)).1 x j = mc.1 x j := fun x j q1 q2 => by
      rw [sI_1, if_neg (by omega), p3.1 x j (by omega), x3.1 x j (by omega), sI_1, if_neg (by omega), w6.1 x j (by omega), sI_1, if_neg (by omega), v6.1 x j (by omega), sI_1, if_neg (by omega), u6.1 x j (by omega), g0 x j q1]
    refine Or.inr ⟨a6, n6, κ6, fun k => if k = 0 then R else if k = 1 then W else if k = 2 then P else if k = 3 then lf else 0, s00, setI c9 t 3 (nI lf), setI d6 142 0 (nI R), eFf, h1, ?_, ?_, ?_, ?_⟩
    · refine ⟨⟨fun x j q1 q2 => (cx x j q1 (by omega)).trans (fr1 x j q1 q2), p3.2.trans (x3.2.trans k2)⟩, ⟨⟨p2.1.1, (sI_na (by omega)).trans p2.1.2.1, fun k hk => ⟨(p2.1.2.2 k hk).1, (sI_na (by omega)).trans (p2.1.2.2 k hk).2⟩⟩, ⟨(sI_na (by omega)).trans p2.2.1.1, (sI_na (by omega)).trans p2.2.1.2.1, (sI_na (by omega)).trans p2.2.1.2.2⟩, p2.2.2⟩, ?_, ?_, ?_, ?_, ?_⟩
      · rw [sI_na (by omega), p3.1 1 3 (by omega), x3.1 1 3 (by omega), sI_na (by omega), w6.1 1 3 (by omega), sI_na (by omega), v6.1 1 3 (by omega), sI_na (by omega), u6.1 1 3 (by omega)]
        exact b3
      · rw [sI_na (by omega), p3.1 1 8 (by omega), x3.1 1 8 (by omega), sI_na (by omega), w6.1 1 8 (by omega), sI_na (by omega), v6.1 1 8 (by omega), sI_na (by omega), u6.1 1 8 (by omega)]
        exact b8
      · obtain ⟨-, ⟨q2, q7, q9, q11, q13⟩, -⟩ := hCT
        refine ⟨⟨?_, ?_, sI_eq _ _ _ _⟩, ⟨?_, (cx t 7 (by omega) (by omega)).trans q7, (cx t 9 (by omega) (by omega)).trans q9, (cx t 11 (by omega) (by omega)).trans q11, (cx t 13 (by omega) (by omega)).trans q13⟩, fun w hw => absurd hw (Nat.not_lt_zero _), fun w hw => absurd hw (Nat.not_lt_zero _), fun w hw => absurd hw (Nat.not_lt_zero _), fun w hw => absurd hw (Nat.not_lt_zero _)⟩
        · show _ = nI R
          rw [sI_nj (by decide), p3.1 t 0 (by omega), x3.1 t 0 (by omega), sI_nj (by decide), w6.1 t 0 (by omega), sI_nj (by decide), v6.1 t 0 (by omega), sI_eq]
        · show _ = nI W
          rw [sI_nj (by decide), p3.1 t 1 (by omega), x3.1 t 1 (by omega), sI_nj (by decide), w6.1 t 1 (by omega), sI_eq]
        · show _ = nI P
          rw [sI_nj (by decide), p3.1 t 2 (by omega), x3.1 t 2 (by omega), sI_eq]
      · exact (cx t 4 (by omega) (by omega)).trans h4
      · obtain ⟨-, o1, o2, o3⟩ := hP
        have o4 : ∀ k, k < 60 → (setI c9 t 3 (nI lf)).1 (t + 1 + 1) k = 25 := fun k hk => (cx _ k (by omega) (by omega)).trans (o3 k hk (by rintro ⟨_, rib, _, _, q, _⟩; exact absurd q (Nat.not_lt_zero _)))
        refine ⟨fun side rib c q1 q2 q3 => ?_, (cx _ _ (by omega) (by omega)).trans o1, (cx _ _ (by omega) (by omega)).trans o2, fun k hk _ => o4 k hk⟩
        have q2' : rib < R := q2
        have q3' : c < W := q3
        have : W * rib ≤ 3 * rib := Nat.mul_le_mul_right _ v2
        have e1 := o4 (side * 30 + (W * rib + c)) (by omega)
        refine e1.trans ?_
        unfold s00
        rw [if_pos (by omega)]
        rfl
    · refine ⟨h5.set (by omega) _ _, h2.tb (fun x j z => sI_na (by omega)), (sI_na (by decide)).trans h6, fun k hk => ?_, fun k hk => (sI_na (by decide)).trans (h10 k hk)⟩
      by_cases q : k = 0
      · subst q
        exact sI_eq _ _ _ _
      · dsimp only
        rw [sI_nj q, h7 k hk, if_neg q]
    · refine ⟨fun q => absurd q (by decide), fun _ => ⟨OKr.mk' ⟨u1, u2, v1, v2, lf1⟩ (fun k hk => ?_) w2 (Nat.zero_le _) (Nat.zero_le _) (Nat.zero_le _) (Nat.zero_le _) (fun w hw => absurd hw (Nat.not_lt_zero _)) (fun w hw => absurd hw (Nat.not_lt_zero _)) (fun w hw => absurd hw (Nat.not_lt_zero _)) (fun w hw => absurd hw (Nat.not_lt_zero _)) (fun v w hv => absurd hv (Nat.not_lt_zero _)), ⟨fun k hk => ?_, ?_, ?_, fun side k q1 q2 _ => ?_⟩, Nat.zero_le _, Nat.zero_le _, Iff.rfl⟩⟩
      · repeat' split
        all_goals omega
      · unfold s00
        split <;> omega
      · exact Nat.pow_pos (by decide)
      · exact Nat.zero_le _
      · unfold s00
        rw [if_pos (by omega)]
    · have := hT1.1
      have := hT6.1
      have := x2.2.2
      omega
  · have hb5 : isB b a5 n5 κ5 5 = false := by
      cases hq : isB b a5 n5 κ5 5
      · rfl
      · exact absurd (Or.inl hq) hel
    have hb6 : isB b a5 n5 κ5 6 = false := by
      cases hq : isB b a5 n5 κ5 6
      · rfl
      · exact absurd (Or.inr hq) hel
    refine Or.inl ⟨1, a5, by omega, ((to_0 x2 (by decide) (by decide) hb5 hb6).cx (t := t) (m0 := c0) k3 (x3.2.trans k2)).eq (fun m' e => ?_), wrM d5 1 a5, ?_, wr_FL _ _ _, (hG5.tr x6.gf).wr _ _⟩
    · rw [eF2]
      refine Eq.trans (cl2_e x1) ?_
      rw [if_neg (by decide)]
      refine Eq.trans (cl2_e e) ?_
      rfl
    · rw [eG2]
      unfold fnC
      rw [x4, cl1_so, tks_0 x5 (i := 21) (by decide) (c21.trans hb6), cl2_so, if_pos (by decide), mus_0 x5 (i := 22) (by decide) (c22.trans hb5), cl1_so]
      unfold fX11_fanLine_100 fX11_fanLine_114
      rw [wr_13]
      rfl
end LINE
