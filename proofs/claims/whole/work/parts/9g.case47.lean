/-! the law's case of led -/
theorem sa_Lled : inT (.static yL_led) := ⟨by decide +kernel, by decide +kernel⟩
theorem ml_Lled : inT (.methodLink RL 217 yL_led) := ⟨by decide +kernel, by decide +kernel⟩
def ledO (H : Bool) (r s : Nat → Nat) (x : Int32) : Option Nat := if H = true then ledN (ledG r s) x (r 0 * r 1) 0 0 else none
section LED3
variable {m : Me} {H : Bool} {r s : Nat → Nat} {x : Int32}
theorem led_m (hM : JM m H r s) (hO : JO H r s) : fX11_led x m = ledM m (ledO H r s x) := by
  cases H with
  | false =>
    have e := hM.1
    rw [fX11_led, show FU = 1999 + 1 from rfl, fX11_led_4, if_pos (show m.1 138 14 = 0 from e)]
    rfl
  | true =>
    obtain ⟨f0, f1, f2, f3, f4⟩ := (hO rfl).1.1
    exact lm4 (x := x) hM.km (hO rfl) (r 0) 0 FU 0 (by omega) (FU_pos (by omega))
theorem ledO_lt (hO : JO H r s) {c : Nat} (h : ledO H r s x = some c) : c < 30 ∧ ¬ x < 0 ∧ H = true := by
  cases H with
  | false => cases h
  | true =>
    obtain ⟨f0, f1, f2, f3, f4⟩ := (hO rfl).1.1
    have hb : r 0 * r 1 ≤ 30 := Nat.le_trans (Nat.mul_le_mul f1 f3) (by decide)
    have h : ledN (ledG r s) x (r 0 * r 1) 0 0 = some c := h
    refine ⟨?_, fun hx => ?_, rfl⟩
    · have : ∀ n p k, p + n ≤ 30 → ledN (ledG r s) x n p k = some c → c < 30 := by
        intro n
        induction n with
        | zero => intro p k _ h; cases h
        | succ n ih =>
          intro p k hp h
          rw [ledN] at h
          split at h
          · split at h
            · cases h; omega
            · exact ih _ _ (by omega) h
          · exact ih _ _ (by omega) h
      exact this _ _ _ (by omega) h
    · rw [ledN_neg _ hx _ _ _ (by omega)] at h
      cases h
theorem led_c (hI : Inv m) (hC : JC m H r s) (hO : JO H r s) (h4 : ¬ m.1 0 4 = 0) : fX10_bareOfFront x m = some (ledC (ledO H r s x), m) := by
  cases H with
  | false => exact absurd hC.1 h4
  | true =>
    obtain ⟨f0, f1, f2, f3, f4⟩ := (hO rfl).1.1
    have hb : r 0 * r 1 ≤ 30 := Nat.le_trans (Nat.mul_le_mul f1 f3) (by decide)
    exact lc4 (x := x) (hC.kc hI) (hO rfl) (r 0 * r 1) 0 FU 0 (by omega) (FU_pos (by omega))
theorem WI.o157 (hI : Inv m) (hW : WI m) (v : Int32) : WI (setI m 158 0 v) := by
  obtain ⟨H, r, s, T, L, b, U, ss, A, im, ⟨hC, hM, hO, hS⟩, hF, hT, hU, hA, hN, hD⟩ := hW
  have e : ∀ a j, a ≠ 158 → (setI m 158 0 v).1 a j = m.1 a j := fun a j h => (sI_1 _ _ _ _ _ _).trans (if_neg (fun q => h q.1))
  have hk := (ivT hI).2
  have ht := kd2_two hk
  refine ⟨H, r, s, T, L, b, U, ss, A, im, ⟨⟨(e 0 4 (by decide)).trans hC.1, fun q => ⟨?_, ?_⟩⟩, hM.cg (fun a j q => e a j (by omega)), hO, fun q => (hS q).cg (fun a j _ _ => e a j (by omega))⟩, ⟨hF.1, (e 0 16 (by decide)).trans hF.2.1, (e 138 11 (by decide)).trans hF.2.2.1, ?_, fun q => ?_⟩, hT.cg (fun a j q => e a j (by omega)), hU.cg (fun a j q => e a j (by omega)), hA.cg (fun a j q => e a j (by omega)), fun q => ?_, hD⟩
  · exact (hC.2 q).1.cg (hO q).1 (fun a j h1 h2 => e a j (by
      have : rr (setI m 158 0 v) 0 3 = rr m 0 3 := rfl
      omega))
  · exact (hC.2 q).2.cg (fun a j h => e a j (by omega))
  · rw [e 138 9 (by decide), e 1 8 (by decide)]
    exact hF.2.2.2.1
  · rw [e 138 10 (by decide), e 1 9 (by decide)]
    exact hF.2.2.2.2 q
  · obtain ⟨q1, q2, q3⟩ := hN q
    exact ⟨q1, q2, q3.cg hk (fun a j h => e a j (by omega)) rfl⟩
end LED3
section LW47
variable {G : EV} {p : Program} {l : Launch} {e : Env} {s : State} {m : MethodId} {args : Array Value} {below : List Frame} {meth : Method} {c : Code} {Q : State → Prop} {μ : MI}
variable {pc q : Nat} {ls : Lo} {st : List Value} {S : Sh} {mm : Me} {L : Nat} {xs : Nat → Int32} {i : Int32}
theorem lw_lcmp (E : LE G p l s m args meth c μ L xs) {x y : Int64} (hd : decode cL_law pc = .ok (.lcmp, 1)) (hq : pc + 1 = q) (k : LW G p l e s m args below meth c Q (q, ls, .int (lg_cmp x y) :: st, S, mm)) : LW G p l e s m args below meth c Q (pc, ls, .long y :: .long x :: st, S, mm) := by
  subst hq
  obtain ⟨F, h1, h2, h3, hX, hb, hB, -⟩ := E
  exact ⟨k.1, fun H locs lsA hR hS hl => W.lcmp F.1 (F.2.1.trans h1) hd (k.2 H locs lsA hR hS hl)⟩
set_option maxHeartbeats 2000000 in
theorem lw_led (E : LE G p l s m args meth c μ L xs) {x r : Int32} {σ1 : Sm} {mc ms : Nat} (hM : Met l yL_led TB (rmM mc ms) (PcT G [.ref 0, .int x, .ref 158] (S, mm)) (QcG G (some (.int r)) σ1) mc ms (A0 G)) (hσ : σ1.1.length = S.length + mc ∧ nS σ1.1 = nS S + ms)
    (k : LW G p l e s m args below meth c Q (1746, ls, [.int r], σ1)) : LW G p l e s m args below meth c Q (1743, ls, [.ref 158, .int x, .ref 0], S, mm) := by
  obtain ⟨⟨b1, b2⟩, k⟩ := k
  have b1 : σ1.1.length ≤ room_1.cells := b1
  have b2 : nS σ1.1 ≤ room_1.slots := b2
  obtain ⟨F, hcode, h7, hRL, hX, hbx, hB, hTH, hfl⟩ := E
  refine ⟨⟨by show S.length ≤ _; have := hσ.1; omega, by show nS S ≤ _; have := hσ.2; omega⟩, fun H locs lsA hR hS hl => ?_⟩
  intro T hT X
  have hb1 : S.length + mc ≤ room_1.cells := by rw [← hσ.1]; exact b1
  have hb2 : nS S + ms ≤ room_1.slots := by rw [← hσ.2]; exact b2
  obtain ⟨mk, methM, cM, hnamed, hmethM, hcM, -, hlM, -, -, -, hsigM⟩ := Cond.codeWith_spec (F.2.2.2.2.1 _ cw_led)
  have hstatic : methM.isStatic = true := Cond.static_spec hnamed hmethM (F.2.2.2.2.1 _ sa_Lled)
  obtain ⟨kP, hkP, -⟩ := className_of_methodNamed hnamed
  have hinitP : kP.init = .initialized := Cond.initialized_spec (findClass_of_methodNamed hnamed) hkP (F.2.2.2.2.1 _ ini_L)
  have hlen : (cst G [.ref 0, .int x, .ref 158]).length = methM.sig.parameters.length := by
    have h5 : (parseMethodDescriptor yL_led.desc).map (fun d => d.parameters.length) = some 3 := by decide +kernel
    rw [hsigM] at h5
    exact (Option.some.inj h5).symm
  have hown : s.vm.findClass RL = some m.cls := by rw [← hRL]; exact F.2.2.2.1
  have hdg : decode c.code 1743 = .ok (.invokestatic 217, 3) := by rw [F.2.1, hcode]; exact dL_law_1743
  obtain ⟨vm₁, X₁, hstep₁⟩ := X.invokestatic F.1 hown (F.2.2.2.2.1 _ ml_Lled) hnamed hmethM hstatic hkP hinitP (by decide) (g := F0 m 1743 lsA (cst G [.ref 158, .int x, .ref 0])) rfl (argsL := cst G [.ref 0, .int x, .ref 158]) (rest := []) hlen rfl hdg
  have hK : Back l room_1 p e below s args yL_led 3 8 (PreOf room_1 mc ms (PcT G [.ref 0, .int x, .ref 158] (S, mm))) (PostOf (QcG G (some (.int r)) σ1) mc ms (A0 G)) := by
    refine Back.of_freeWith (handlers := [(0, 9, 12, 13)]) (S := headSpec TB (rmM mc ms)) (P := PcT G [.ref 0, .int x, .ref 158] (S, mm)) (K := fun _ _ _ _ _ => True) (Q := fun a st o t => QcG G (some (.int r)) σ1 a st o t ∧ ∃ L, FrameEnd st o t L mc ms ∧ ∀ q ∈ L, A0 G q.base) (bytes := cL_led) (maxL := 4) (ret := some .int)
      (E := fun a st o t L k n => k = mc ∧ n = ms ∧ ∀ q ∈ L, A0 G q.base) hM (by show 30 + 1 ≤ 2048; decide) (by show 8 + (4 + 11) + 2000 ≤ 84000; decide) ?_ ?_ (fun _ _ _ _ _ _ _ _ _ => trivial) ?_ ?_
    · intro m' meth' c' A a X' hp
      exact ⟨atoms_intro fun w hw => word_at X'.warmed (good_of_word (TB_inT hw).2) (F.2.2.2.2.1 w (TB_inT hw)), word_at X'.warmed (good_of_word cw_led.2) (F.2.2.2.2.1 _ cw_led), word_at X'.warmed (good_of_word ini_L.2) (F.2.2.2.2.1 _ ini_L), hp.1, hp.2.1⟩
    · intro m' meth' c' A a g mk' X' hp
      exact ⟨PcG.blind _ _ _ _ hp.2.2.1, hp.2.2.2.warm (State.WarmedH.refl _) (fun _ _ _ => rfl)⟩
    · intro a st o t ⟨hq, L', hF, hL⟩
      exact ⟨L', mc, ms, hF, rfl, rfl, hL⟩
    · intro m' meth' c' A a g mk' v t L' k' n' X' hp hq hF ⟨e1, e2, hL⟩
      subst e1; subst e2
      exact ⟨g, mk', t, L', rfl, rfl, hq.1, rfl, hL, rfl, rfl⟩
  have hlow : ∀ a, a < s.heap.size → ¬ A0 G a → (T.setVm vm₁).heap[a]? = s.heap[a]? := fun a h1 h2 => by
    show T.heap[a]? = _
    rw [hT]
    exact hS.2.1 a h1 h2
  obtain ⟨v, ⟨U', l2, c2, s2⟩, X', ⟨g', mk', t, L', e1, e2, hq, h1, hL, h2, h3⟩, hsteps⟩ := hK m meth c ⟨T.setVm vm₁, locs, S.length, nS S⟩ (F0 m 1743 lsA []) (.invokestatic 217) mk (cst G [.ref 0, .int x, .ref 158]).toArray X₁ rfl hl.1.1 hdg (by show 2 * 0 + 0 ≤ 8; decide) (X₁.named hnamed)
    ⟨hb1, hb2, PcG.pre F.2.2.2.2.2.1 hS hR (T.setVm vm₁) hT X₁.warmed, hTH.warm X₁.warmed hlow⟩
  dsimp only [Pt.U, Pt.locs, Pt.cells, Pt.slots] at X' e1 e2 h1 h2 h3 hsteps
  subst h1; subst h2; subst h3
  obtain ⟨q1, q2, q3⟩ := hq
  have hv : v = some (.int r) := by injection q1
  subst hv
  have hk := k t.heap (locs ++ L') lsA q2 (hS.call (st₀ := (T.setVm vm₁).calling g' mk' (cst G [.ref 0, .int x, .ref 158]).toArray) hT q3 hL) hl
  dsimp only at hk
  rw [hσ.1, hσ.2] at hk
  obtain ⟨t2, a1, b1'⟩ := hk U' e1 X'
  exact ⟨t2, hstep₁ _ fun acts => by rw [doInvoke_state]; exact hsteps.trans a1, b1'⟩
theorem nS_app (A B : Sh) : nS (A ++ B) = nS A + nS B := by simp [nS]
theorem lgc_self (x : Int64) : lg_cmp x x = 0 := by
  unfold lg_cmp
  simp
set_option maxHeartbeats 2000000 in
set_option maxRecDepth 20000 in
theorem cs_47 (E : LE G p l s m args meth c μ L xs) (hS : ShOK S) (hlen : S.length < 999999) (hI : Inv mm) (hW : WI mm) (hin : ∀ k : Int32, 0 ≤ k ∧ k < 6 → inb (i + k) L) (next : ∀ S' mm', ShOK S' → (S' = S ∨ S' = S ++ [(18, 6)]) → Inv mm' → WI mm' → LW G p l e s m args below meth c Q (1829, [(4, .int i), (0, .ref 3000000), (1, .ref 0), (2, .ref 138), (3, .ref 158)], [], S', mm')) : LW G p l e s m args below meth c Q (1735, [(4, .int i), (0, .ref 3000000), (1, .ref 0), (2, .ref 138), (3, .ref 158)], [], S, mm) := by
  have hK := LW.cl (l := l) (e := e) (below := below) (Q := Q) E.1
  refine ko_aload_n hK (q := 1736) rfl (by decide) (E.dc dL_law_1735) rfl ?_
  refine lw_arg E (q := 1742) (kk := 1) 1 dL_law_1736 dL_law_1737 dL_law_1739 dL_law_1740 dL_law_1741 (by decide) (hin _ (by decide)) rfl rfl rfl ?_
  refine ko_aload_n hK (q := 1743) rfl (by decide) (E.dc dL_law_1742) rfl ?_
  generalize hy : xs (i + 1).toNatClampNeg = y
  obtain ⟨H, r, s0, T, L0, b0, U, ss, A, im, ⟨hC, hM, hO, hSC⟩, hF, hT, hU, hA, hN, hD⟩ := id hW
  have hm := led_m (x := y) hM hO
  cases ho : ledO H r s0 y with
  | none =>
    rw [ho] at hm
    have hb : ¬ y < 0 → ¬ mm.1 0 4 = 0 → fX10_bareOfFront y mm = some (-1, mm) := fun _ h4 => by
      rw [led_c hI hC hO h4, ho]
      rfl
    have hS1 : ShOK (S ++ [(18, 6)]) := by
      obtain ⟨X, hX⟩ := hS
      exact ⟨X ++ [(18, 6)], by rw [hX, List.append_assoc]⟩
    have q1 := metL_no (G := G) (l := l) (x := y) hS hlen (led_thr E.2.2.2.2.2.2.2.2 hlen (cled_no hS hI hb))
    have q2 := kX11_led hS1 hm hI
    have q3 := kX11_thrown (m := setI mm 138 0 1) hS1 rfl q2.2
    refine lw_led E q1 ⟨by simp, by rw [nS_app]; rfl⟩ ?_
    refine ko_istore hK (q := 1748) [(5, .int 1), (4, .int i), (0, .ref 3000000), (1, .ref 0), (2, .ref 138), (3, .ref 158)] rfl (by rw [E.2.2.1]; decide) (E.dc dL_law_1746) rfl ?_
    refine ko_aload_n hK (q := 1749) rfl (by decide) (E.dc dL_law_1748) rfl ?_
    refine lw_arg E (q := 1755) (kk := 1) 1 dL_law_1749 dL_law_1750 dL_law_1752 dL_law_1753 dL_law_1754 (by decide) (hin _ (by decide)) rfl rfl rfl ?_
    rw [hy]
    refine ko_virt hK (q := 1758) mX11_led [.int y] (E.dc dL_law_1755) rfl rfl (Nat.le_of_ble_eq_true rfl) mo_X11_led (E.ml mv_L_222) (Or.inl ⟨11, 37, _, h_138 hS1, rfl, rfl⟩) (Call_mono (by decide) q2.1) ?_
    refine ko_istore hK (q := 1760) [(6, .int 0), (5, .int 1), (4, .int i), (0, .ref 3000000), (1, .ref 0), (2, .ref 138), (3, .ref 158)] rfl (by rw [E.2.2.1]; decide) (E.dc dL_law_1758) rfl ?_
    refine ko_aload_n hK (q := 1761) rfl (by decide) (E.dc dL_law_1760) rfl ?_
    refine ko_virt hK (q := 1764) mX11_thrown [] (E.dc dL_law_1761) rfl rfl (Nat.le_of_ble_eq_true rfl) mo_X11_thrown (E.ml mv_L_223) (Or.inl ⟨11, 37, _, h_138 hS1, rfl, rfl⟩) (Call_mono (by decide) q3.1) ?_
    refine ko_iload hK (q := 1766) rfl (E.dc dL_law_1764) rfl ?_
    refine ko_icT hK (q := 1771) (op := .eq) (show (setI mm 138 0 1).1 138 0 = 1 from sI_eq _ _ _ _) (E.dc dL_law_1766) rfl ?_
    refine ko_iload hK (q := 1773) rfl (E.dc dL_law_1771) rfl ?_
    refine ko_ifT hK (q := 1788) (op := .ne) (show ¬ (1 : Int32) = 0 by decide) (E.dc dL_law_1773) rfl ?_
    refine ko_goto hK (q := 1829) (E.dc dL_law_1788) rfl ?_
    exact LW.sub (fun q hq => List.mem_cons_of_mem _ (List.mem_cons_of_mem _ hq)) (next _ _ hS1 (Or.inr rfl) q2.2 (hW.th hI 1))
  | some cc =>
    obtain ⟨hc30, hx0, hH⟩ := ledO_lt hO ho
    have h4 : ¬ mm.1 0 4 = 0 := by
      subst hH
      rw [show mm.1 0 4 = nI 1 from hC.1]
      decide
    have hb := led_c (x := y) hI hC hO h4
    rw [ho] at hb
    have q1 := metL_ok (G := G) (l := l) hS (h_158 hS) (cled_ok hS hI hc30 hx0 h4 hb)
    have hI1 : Inv (setI mm 158 0 (nI cc)) := hI
    have hM1 : JM (setI mm 158 0 (nI cc)) H r s0 := hM.cg (fun a j q => (sI_1 _ _ _ _ _ _).trans (if_neg (fun z => by omega)))
    have hm1 := led_m (x := y) hM1 hO
    rw [ho] at hm1
    have hW1 := hW.o157 hI (nI cc)
    have q2 := kX11_led hS hm1 hI1
    have q3 := kX11_thrown (m := setI (setI mm 158 0 (nI cc)) 138 0 0) hS rfl q2.2
    refine lw_led E q1 ⟨by simp, by simp⟩ ?_
    refine ko_istore hK (q := 1748) [(5, .int 0), (4, .int i), (0, .ref 3000000), (1, .ref 0), (2, .ref 138), (3, .ref 158)] rfl (by rw [E.2.2.1]; decide) (E.dc dL_law_1746) rfl ?_
    refine ko_aload_n hK (q := 1749) rfl (by decide) (E.dc dL_law_1748) rfl ?_
    refine lw_arg E (q := 1755) (kk := 1) 1 dL_law_1749 dL_law_1750 dL_law_1752 dL_law_1753 dL_law_1754 (by decide) (hin _ (by decide)) rfl rfl rfl ?_
    rw [hy]
    refine ko_virt hK (q := 1758) mX11_led [.int y] (E.dc dL_law_1755) rfl rfl (Nat.le_of_ble_eq_true rfl) mo_X11_led (E.ml mv_L_222) (Or.inl ⟨11, 37, _, h_138 hS, rfl, rfl⟩) (Call_mono (by decide) q2.1) ?_
    refine ko_istore hK (q := 1760) [(6, .int (nI cc)), (5, .int 0), (4, .int i), (0, .ref 3000000), (1, .ref 0), (2, .ref 138), (3, .ref 158)] rfl (by rw [E.2.2.1]; decide) (E.dc dL_law_1758) rfl ?_
    refine ko_aload_n hK (q := 1761) rfl (by decide) (E.dc dL_law_1760) rfl ?_
    refine ko_virt hK (q := 1764) mX11_thrown [] (E.dc dL_law_1761) rfl rfl (Nat.le_of_ble_eq_true rfl) mo_X11_thrown (E.ml mv_L_223) (Or.inl ⟨11, 37, _, h_138 hS, rfl, rfl⟩) (Call_mono (by decide) q3.1) ?_
    refine ko_iload hK (q := 1766) rfl (E.dc dL_law_1764) rfl ?_
    refine ko_icT hK (q := 1771) (op := .eq) (show (setI (setI mm 158 0 (nI cc)) 138 0 0).1 138 0 = 0 from sI_eq _ _ _ _) (E.dc dL_law_1766) rfl ?_
    refine ko_iload hK (q := 1773) rfl (E.dc dL_law_1771) rfl ?_
    refine ko_ifF hK (q := 1776) (op := .ne) 1788 (fun h => h rfl) (E.dc dL_law_1773) rfl rfl ?_
    refine ko_aload_n hK (q := 1777) rfl (by decide) (E.dc dL_law_1776) rfl ?_
    refine ko_iconst hK (q := 1778) ic_0 (E.dc dL_law_1777) rfl ?_
    refine lw_lald E (q := 1779) (h_158 hS) (by decide) dL_law_1778 rfl ?_
    refine ko_iload hK (q := 1781) rfl (E.dc dL_law_1779) rfl ?_
    refine lw_i2l E (q := 1782) dL_law_1781 rfl ?_
    refine lw_lcmp E (q := 1783) dL_law_1782 rfl ?_
    have hv : (setI (setI mm 158 0 (nI cc)) 138 0 0).1 158 (0 : Int32).toNatClampNeg = nI cc := (sI_na (by decide)).trans (sI_eq _ _ _ _)
    refine ko_ifT hK (q := 1788) (op := .eq) (by
      show lg_cmp _ _ = 0
      rw [hv]
      exact lgc_self _) (E.dc dL_law_1783) rfl ?_
    refine ko_goto hK (q := 1829) (E.dc dL_law_1788) rfl ?_
    exact LW.sub (fun q hq => List.mem_cons_of_mem _ (List.mem_cons_of_mem _ hq)) (next _ _ hS (Or.inl rfl) q2.2 (hW1.th hI1 0))
end LW47
