/-! fan, both sides -/
section FAN2
variable {m : Me} {x1 : Int32}
theorem t_fan (hI : Inv m) (hW : WI m) : Two (fX10_fan x1) (fX11_fan x1) m := by
  obtain ⟨H, r, s, T, L, b, U, ss, A, im, hJ, hF, hT, hU, hA, hN, hD⟩ := id hW
  obtain ⟨hC, hM, hO, hS⟩ := id hJ
  obtain ⟨l1, l2, l3, l4⟩ := id hT
  by_cases hv : (0 : Int32) ≤ x1 ∧ x1 ≤ nI L
  · obtain ⟨N, hN2, rfl⟩ := nI_of (Int32.not_lt.mpr hv.1)
    have hNL : N ≤ L := (nI_leI hN2 (by omega)).mp hv.2
    generalize htd : rr m 1 2 = t
    generalize ht0d : rr m 0 3 = t0
    have ht : t = 3 ∨ t = 42 := by
      rw [← htd]
      exact kd2_two (ivF hI).2
    have ht0 : t0 = 3 ∨ t0 = 42 := by
      rw [← ht0d]
      exact kd2_two (ivT hI).2
    have htt : t ≠ t0 := by
      rw [← htd, ← ht0d]
      exact hD
    have hr0 : rr (setI m 0 2 (nI 0)) 1 2 = t := htd
    obtain ⟨a, n, κ, hTk⟩ := Tk_ex N b (p := 0) (by omega)
    obtain ⟨c1, ec, hRC⟩ := fanC (c0 := setI m 0 2 (nI 0)) ht hr0 (by omega) (fun k hk => ⟨(l4 k (by omega)).1, (sI_na (by decide)).trans (l4 k (by omega)).2.2⟩) hTk
    have hRP : RP false (fun _ => 0) s00 := ⟨fun _ => ⟨rfl, rfl⟩, fun q => absurd q (by decide)⟩
    -- the class ends
    have tot : ∃ V m1, fX10_fan (nI N) m = some (V, m1) ∧ ∀ x j, 138 ≤ x → m1.1 x j = m.1 x j := by
      obtain ⟨d0, d1, -, hRM, -⟩ := fanM (N := N) (b := b) l3 hNL l1 (fun k hk => ⟨(l4 k (by omega)).1, (l4 k (by omega)).2.1⟩) hTk
      rcases lines ht hr0 900 FU FU 0 false _ _ c1 d1 a n κ (by omega) (FU_pos (by omega)) (FU_pos (by omega)) (by omega) hRC hRM hRP with ⟨nb, pl, q0, q1, -⟩ | ⟨a', n', κ', r', s', mc', mm', q1, -, q3, -, q5⟩
      · rw [← ec] at q1
        obtain ⟨m1, e1, -, -, -, -, g, -⟩ := fanC_f l2 hNL l1 q1
        exact ⟨_, m1, e1, fun x j z => g x j (by omega) (by omega) (by omega)⟩
      · rw [← ec] at q1
        obtain ⟨m1, e1, -, -, -, -, -, -, -, -, -, -, -, g⟩ := fanC_s ht ht0d htd l2 hNL l1 q1 q3 q5
        exact ⟨_, m1, e1, g⟩
    obtain ⟨V, m1, eV, hx⟩ := tot
    obtain ⟨d0, d1, eg, hRM, k1, k2, k3, k4, k5⟩ := fanM (N := N) (b := b) (m := m1) ((hx 138 2 (by omega)).trans l3) hNL l1 (fun k hk => ⟨(l4 k (by omega)).1, (hx 139 k (by omega)).trans (l4 k (by omega)).2.1⟩) hTk
    rcases lines ht hr0 900 FU FU 0 false _ _ c1 d1 a n κ (by omega) (FU_pos (by omega)) (FU_pos (by omega)) (by omega) hRC hRM hRP with ⟨nb, pl, q0, q1, m', q2, q3, q4⟩ | ⟨a', n', κ', r', s', mc', mm', q1, q2, q3, q4, q5⟩
    · -- a fault
      rw [← ec] at q1
      obtain ⟨m1', e1, g1, g2, g3, g4, g5, g6⟩ := fanC_f l2 hNL l1 q1
      rw [e1] at eV
      obtain ⟨rfl, rfl⟩ : -nI 1 = V ∧ m1' = m1 := by
        have := Option.some.inj eV
        exact ⟨congrArg Prod.fst this, congrArg Prod.snd this⟩
      refine ⟨-nI 1, m1', setI m' 138 11 (nI 4), e1, ?_, ?_⟩
      · rw [eg, q2]
        unfold fX11_fan_185
        rw [q3.1, if_neg (by decide)]
        rfl
      · have fx : ∀ x j, x ≠ 138 → x ≠ 140 → x ≠ 142 → x ≠ 144 → x ≠ 147 → (setI m' 138 11 (nI 4)).1 x j = m1'.1 x j := fun x j z1 z2 z3 z4 z5 => (sI_na z1).trans ((q4.1 x j (by omega) z2 z3 z4 z5).trans (k1 x j z1 z3 z4))
        have f7 : ∀ j, (j = 14 ∨ j = 21 ∨ j = 22) → (setI m' 138 11 (nI 4)).1 138 j = m.1 138 j := fun j hj => (sI_nj (by omega)).trans ((q4.1 138 j (by omega) (by omega) (by omega) (by omega) (by omega)).trans ((k2 j hj).trans (hx 138 j (by omega))))
        have fy : ∀ x j, x ≠ 138 → x ≠ 140 → x ≠ 142 → x ≠ 144 → x ≠ 147 → x ≠ 1 → ¬ (t ≤ x ∧ x ≤ t + 38) → ¬ (x = 0 ∧ (j = 2 ∨ j = 16)) → (setI m' 138 11 (nI 4)).1 x j = m.1 x j := fun x j z1 z2 z3 z4 z5 z6 z7 z8 => (fx x j z1 z2 z3 z4 z5).trans (g5 x j z6 z7 z8)
        have er2 : (setI m' 138 11 (nI 4)).2 = m.2 := q4.2.trans (k5.trans g6)
        have hr : rr (setI m' 138 11 (nI 4)) 0 3 = t0 := by
          rw [← ht0d]
          unfold Jvm.Pilot.CFanPartsLaw_law_r1864_615eae.rr
          rw [er2]
        have g4' : m1'.1 0 2 = nI 0 := by
          rw [g4, if_neg (by omega)]
        refine ⟨H, r, s, 4, 0, fun _ => 0, U, ss, A, im, ⟨⟨(fy 0 4 (by omega) (by omega) (by omega) (by omega) (by omega) (by omega) (by omega) (by omega)).trans hC.1, fun q => ⟨?_, (hC.2 q).2.cg (fun x j z => fy x j (by omega) (by omega) (by omega) (by omega) (by omega) (by omega) (by omega) (by omega))⟩⟩, ⟨(f7 14 (by omega)).trans hM.1, fun q => ⟨fun k hk => (fy 141 k (by omega) (by omega) (by omega) (by omega) (by omega) (by omega) (by omega) (by omega)).trans ((hM.2 q).1 k hk), fun k hk => (fy 143 k (by omega) (by omega) (by omega) (by omega) (by omega) (by omega) (by omega) (by omega)).trans ((hM.2 q).2 k hk)⟩⟩, hO, fun q => (hS q).cg (fun x j z1 z2 => fy x j (by omega) (by omega) (by omega) (by omega) (by omega) (by omega) (by omega) (by omega))⟩, ⟨by omega, ?_, sI_eq _ _ _ _, ?_, fun _ => ?_⟩, ⟨by omega, ?_, ?_, fun k hk => absurd hk (by omega)⟩, ?_, hA.cg (fun x j z => ?_), fun q => ?_, ?_⟩
        · rw [hr]
          have := (hC.2 q).1
          rw [ht0d] at this
          exact this.cg (hO q).1 (fun x j z1 z2 => fy x j (by omega) (by omega) (by omega) (by omega) (by omega) (by omega) (by omega) (by omega))
        · rw [fx 0 16 (by omega) (by omega) (by omega) (by omega) (by omega)]
          exact g1
        · rw [sI_nj (by decide), q3.2.1, fx 1 8 (by omega) (by omega) (by omega) (by omega) (by omega), g2]
        · rw [sI_nj (by decide), q3.2.2, fx 1 9 (by omega) (by omega) (by omega) (by omega) (by omega), g3]
        · rw [fx 0 2 (by omega) (by omega) (by omega) (by omega) (by omega)]
          exact g4'
        · rw [sI_nj (by decide), q4.1 138 2 (by omega) (by omega) (by omega) (by omega) (by omega)]
          exact k3
        · obtain ⟨u1, u2, u3, u4, u5⟩ := hU
          refine ⟨u1, (fy 84 3 (by omega) (by omega) (by omega) (by omega) (by omega) (by omega) (by omega) (by omega)).trans u2, (f7 21 (by omega)).trans u3, u4, fun i hi => ?_⟩
          obtain ⟨w1, w2, w3⟩ := u5 i hi
          exact ⟨w1, fun k hk => (fy 145 _ (by omega) (by omega) (by omega) (by omega) (by omega) (by omega) (by omega) (by omega)).trans (w2 k hk), w3.cg (fy 85 _ (by omega) (by omega) (by omega) (by omega) (by omega) (by omega) (by omega) (by omega)) (fy 86 _ (by omega) (by omega) (by omega) (by omega) (by omega) (by omega) (by omega) (by omega)) (fy 87 _ (by omega) (by omega) (by omega) (by omega) (by omega) (by omega) (by omega) (by omega))⟩
        · by_cases z7 : x = 138
          · subst z7
            exact f7 j (by omega)
          · exact fy x j z7 (by omega) (by omega) (by omega) (by omega) (by omega) (by omega) (by omega)
        · obtain ⟨n1, n2, n3, n4⟩ := hN q
          refine ⟨n1, n2, fun j hj => ?_, (fy 81 2 (by omega) (by omega) (by omega) (by omega) (by omega) (by omega) (by omega) (by omega)).trans n4⟩
          have := n3 j hj
          rw [ht0d] at this
          rw [hr, fy t0 j (by omega) (by omega) (by omega) (by omega) (by omega) (by omega) (by omega) (by omega)]
          exact this
        · refine dj_of (m := m) ?_ (fun a j _ => by rw [er2])
          exact hD
    · -- a fan
      rw [← ec] at q1
      obtain ⟨m1', e1, g1, g2, g3, g4, g5, g6, g7, g8, g9, g10, g11, g12⟩ := fanC_s ht ht0d htd l2 hNL l1 q1 q3 q5
      rw [e1] at eV
      obtain ⟨rfl, rfl⟩ : nI (z_mo r' + 1) = V ∧ m1' = m1 := by
        have := Option.some.inj eV
        exact ⟨congrArg Prod.fst this, congrArg Prod.snd this⟩
      obtain ⟨hG, hLM, h9, hMR, hMS⟩ := q4
      obtain ⟨hK, hKs, -⟩ := q5.2 rfl
      have hf := hK.1
      generalize hmA : cpM (cpM mm' 142 0 141 0 186) 144 0 143 0 62 = mA
      have cA : ∀ x j, x ≠ 141 → x ≠ 143 → mA.1 x j = mm'.1 x j := fun x j z1 z2 => by
        rw [← hmA, cpM_na z2, cpM_na z1]
      have cA0 : ∀ k, k < 186 → mA.1 141 k = nI (r' k) := fun k hk => by
        rw [← hmA, cpM_na (by decide)]
        have := cpM_in (m := mm') (a0 := 142) (p := 0) (a2 := 141) (d := 0) (L := 186) hk
        rw [Nat.zero_add] at this
        rw [this]
        exact hMR k hk
      have cA2 : ∀ k, k < 62 → mA.1 143 k = nI (s' k) := fun k hk => by
        have := cpM_in (m := cpM mm' 142 0 141 0 186) (a0 := 144) (p := 0) (a2 := 143) (d := 0) (L := 62) hk
        rw [Nat.zero_add] at this
        rw [← hmA, this, cpM_na (by decide)]
        exact hMS k hk
      generalize hmB : setI (setI (setI mA 138 14 (nI 1)) 138 21 (nI 0)) 138 22 (nI 0) = mB
      have cB : ∀ x j, ¬ (x = 138 ∧ (j = 14 ∨ j = 21 ∨ j = 22)) → mB.1 x j = mA.1 x j := fun x j z => by
        rw [← hmB, sI_1, if_neg (by omega), sI_1, if_neg (by omega), sI_1, if_neg (by omega)]
      have hMRB : MR mB 141 r' := fun k hk => (cB 141 k (by omega)).trans (cA0 k hk)
      have emo := fX11_mostOpen_e (Or.inl rfl) hMRB ⟨hf.2.2.2.1, hf.2.1, by have := hf.1; omega, hf.2.2.2.2⟩
      have hz := z_mo_le hf
      refine ⟨nI (z_mo r' + 1), m1', mB, e1, ?_, ?_⟩
      · rw [eg, q2]
        unfold fX11_fan_185
        have ec1 := copy_e (m := mm') (a0 := 142) (p := 0) (a2 := 141) (d := 0) (L := 186) (by decide) (by decide) (by decide) (by omega)
        have ec2 := copy_e (m := cpM mm' 142 0 141 0 186) (a0 := 144) (p := 0) (a2 := 143) (d := 0) (L := 62) (by decide) (by decide) (by decide) (by omega)
        rw [hLM.2.2.2, if_pos (by decide)]
        refine (cl1_e ec1).trans ?_
        refine (cl1_e ec2).trans ?_
        rw [hmA]
        have eB : setI (setI (setI mA 138 14 (1 : Int32)) 138 21 (0 : Int32)) 138 22 (0 : Int32) = mB := hmB
        rw [eB]
        refine (cl2_e emo).trans ?_
        rw [zl_1, nI_add]
      · have fx : ∀ x j, x ≠ 138 → x ≠ 140 → x ≠ 141 → x ≠ 142 → x ≠ 143 → x ≠ 144 → x ≠ 147 → mB.1 x j = m1'.1 x j := fun x j z1 z2 z3 z4 z5 z6 z7 => (cB x j (by omega)).trans ((cA x j z3 z5).trans ((hG.1 x j (by omega) z2 z4 z6 z7).trans (k1 x j z1 z4 z6)))
        have er2 : mB.2 = m1'.2 := by
          rw [← hmB, ← hmA]
          show mm'.2 = _
          exact hG.2.trans k5
        have hr : rr mB 0 3 = t := by
          rw [← g10]
          unfold Jvm.Pilot.CFanPartsLaw_law_r1864_615eae.rr
          rw [er2]
        have fl : ∀ x j, x ≤ 137 → mB.1 x j = m1'.1 x j := fun x j z => fx x j (by omega) (by omega) (by omega) (by omega) (by omega) (by omega) (by omega)
        refine ⟨true, r', s', 0, 0, fun _ => 0, 0, fun _ => s', 0, fun _ => s', ⟨⟨(fl 0 4 (by omega)).trans g3, fun _ => ⟨?_, g7.cg (fun x j z => fl x j (by omega))⟩⟩, ⟨?_, fun _ => ⟨hMRB, fun k hk => (cB 143 k (by omega)).trans (cA2 k hk)⟩⟩, fun _ => ⟨hK, hKs⟩, fun _ => g8.cg (fun x j z1 z2 => fl x j (by omega))⟩, ⟨by omega, (fl 0 16 (by omega)).trans g1, ?_, ?_, fun q => absurd q (by omega)⟩, ⟨by omega, (fl 0 2 (by omega)).trans g2, ?_, fun k hk => absurd hk (by omega)⟩, ⟨by omega, (fl 84 3 (by omega)).trans g5, ?_, fun _ _ => rfl, fun i hi => absurd hi (by omega)⟩, ⟨by omega, (fl 0 7 (by omega)).trans g4, ?_, fun i hi => absurd hi (by omega)⟩, fun q => absurd q (by decide), ?_⟩
        · rw [hr]
          exact g6.cg hK (fun x j z1 z2 => fl x j (by omega))
        · rw [← hmB, sI_nj (by decide), sI_nj (by decide), sI_eq]
          rfl
        · rw [cB 138 11 (by omega), cA 138 11 (by omega) (by omega), hG.1 138 11 (by omega) (by omega) (by omega) (by omega) (by omega)]
          exact k4
        · rw [cB 138 9 (by omega), cA 138 9 (by omega) (by omega), h9, fl 1 8 (by omega), g9]
        · rw [cB 138 2 (by omega), cA 138 2 (by omega) (by omega), hG.1 138 2 (by omega) (by omega) (by omega) (by omega) (by omega)]
          exact k3
        · rw [← hmB, sI_nj (by decide), sI_eq]
        · rw [← hmB, sI_eq]
        · have e2 : rr mB 1 2 = t0 := by
            rw [← g11]
            unfold Jvm.Pilot.CFanPartsLaw_law_r1864_615eae.rr
            rw [er2]
          rw [hr, e2]
          exact fun q => htt q.symm
  · refine ⟨-nI 1, setI m 0 16 (nI 2), _, ?_, ?_, hW.no hI (T := 2) (by decide)⟩
    · unfold fX10_fan fX10_fan_12
      by_cases q : x1 < (0 : Int32)
      · rw [if_pos q]
        rfl
      · rw [if_neg q, l2, if_neg (fun z => hv ⟨Int32.not_lt.mp q, z⟩)]
        rfl
    · have e0 : (gdM (setI m 0 16 (nI 2))).1 138 2 = nI L := l3
      have ew : fX11_within x1 (0 : Int32) (nI L) (gdM (setI m 0 16 (nI 2))) = some (nI 0, gdM (setI m 0 16 (nI 2))) := by
        rw [within_e, if_neg hv]
        rfl
      unfold fX11_fan
      rw [gd_e, cl1_so, e0]
      refine (cl2_e ew).trans ?_
      rw [if_pos (by decide)]
      rfl
end FAN2
