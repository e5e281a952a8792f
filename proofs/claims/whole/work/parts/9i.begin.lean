/-! the law's beginning -/
theorem cl_L8 : inT (.classLink RL 8 RX10) := ⟨by decide +kernel, by decide +kernel⟩
theorem cl_L16 : inT (.classLink RL 16 RX11) := ⟨by decide +kernel, by decide +kernel⟩
theorem ac_lng : inT (.arrayClass .long) := ⟨by decide +kernel, by decide +kernel⟩
section BEG
variable {G : EV} {p : Program} {l : Launch} {e : Env} {s : State} {m : MethodId} {args : Array Value} {below : List Frame} {meth : Method} {c : Code} {Q : State → Prop} {μ : MI}
variable {pc q : Nat} {ls : Lo} {st : List Value} {S : Sh} {mm : Me} {L : Nat} {xs : Nat → Int32}
theorem kn_new {K : Cf → Prop} {call : MI → List Value → Sm → Option Value → Sm → Prop} (hK : ∀ c c', One call μ c c' → K c' → K c) {n n1 k0 ix N : Nat} {C : String} {T : u_T} (he : S0[n]? = some (k0, N)) (hn : n + 1 = n1) (hv : vwCl[k0]? = some (C, T, N)) (hc : inT (.classLink μ.1.cls ix C) ∧ inT (.instantiable C N) ∧ inT (.initialized C)) (hd : decode μ.2.1 pc = .ok (.new ix, 3)) (hq : pc + 3 = q) (k : K (q, ls, .ref n :: st, tk n1, zer mm n)) : K (pc, ls, st, tk n, mm) := by
  have hl := tk_l he
  have e1 := tk_n (n := n) (by omega)
  refine ko_new hK (q := q) k0 hv (by rw [e1]; omega) hc hd hq ?_
  rw [tk_s he hn, e1]
  exact k
theorem lw_newl (E : LE G p l s m args meth c μ L xs) (hlen : S.length < 999999) (hd : decode cL_law pc = .ok (.newarray .long, 2)) (hq : pc + 2 = q) (k : LW G p l e s m args below meth c Q (q, ls, .ref S.length :: st, S ++ [(14, 1)], zer mm S.length)) : LW G p l e s m args below meth c Q (pc, ls, .int 1 :: st, S, mm) := by
  subst hq
  obtain ⟨⟨b1, b2⟩, k⟩ := k
  obtain ⟨F, h1, h2, h3, hX, hb, hB, -⟩ := E
  have c1 : (S ++ [(14, 1)]).length = S.length + 1 := by simp
  have c2 : nS (S ++ [(14, 1)]) = nS S + 1 := by rw [nS_app]; rfl
  have b1 : S.length + 1 ≤ room_1.cells := by rw [← c1]; exact b1
  have b2 : nS S + 1 ≤ room_1.slots := by rw [← c2]; exact b2
  refine ⟨⟨Nat.le_of_succ_le b1, Nat.le_of_succ_le b2⟩, fun H locs lsA hR hS hl => ?_⟩
  have hsz : H.size = gB G + S.length := hR.1
  have hKK := F.2.2.2.2.2.1.1.2
  refine va_newaK (n := 1) F.1 F.2.1 (F.2.2.2.2.1 _ (show inT (.arrayClass (newarray.typeOf .long)) from ac_lng)) rfl (by rw [h1]; exact hd) rfl (by decide) (by decide) (by decide) b1 b2 hsz fun H1 cA e1 z1 o1 hAr hfc => ?_
  have z1' : H1.size = H.size + 1 := by rw [z1, hsz]
  have o1' : ∀ q, q < H.size → H1[q]? = H[q]? := fun q hq => o1 q (by rw [← hsz]; exact hq)
  have hcA : cA = gA G 14 := Option.some.inj (hfc.symm.trans (hKK 2 _ rfl).2)
  have hc := k H1 locs lsA (hR.push (k := 14) (n := 1) hlen z1' o1' ⟨fun h => by omega, fun h => by omega, fun _ => ?_, fun h => by omega⟩) (hS.grow z1' o1') hl
  · dsimp only at hc
    rw [c1, c2] at hc
    have hcv : cst G (.ref S.length :: st) = .ref (gB G + S.length) :: cst G st := by
      show cv G (.ref S.length) :: _ = _
      rw [cv_ref (by omega)]
      rfl
    rw [hcv] at hc
    exact hc
  · have hf : (fun j => Value.long ((zer mm S.length).1 S.length j).toInt64) = fun _ => Value.long 0 := by
      funext j
      rw [zer_1]
      rfl
    show H1[gB G + S.length]? = some (arrV (gA G 14) 1 (fun j => Value.long ((zer mm S.length).1 S.length j).toInt64))
    rw [hf, e1, hcA]
    rfl
theorem tk158 : tk 159 = S0 := List.take_of_length_le (Nat.le_of_eq (show S0.length = 159 by decide +kernel))
set_option maxRecDepth 20000 in
theorem lw_begin (E : LE G p l s m args meth c μ L xs) (hL : L ≤ 3072) (hend : ∀ ls S mm, S.length ≤ 601024 → nS S ≤ 7293034 → LW G p l e s m args below meth c Q (1836, ls, [.int 1], S, mm)) : LW G p l e s m args below meth c Q (0, [(0, .ref 3000000)], [], [], m00) := by
  have hK := LW.cl (l := l) (e := e) (below := below) (Q := Q) E.1
  show LW G p l e s m args below meth c Q (0, [(0, .ref 3000000)], [], tk 0, m00)
  refine kn_new hK (q := 3) (n := 0) (n1 := 1) (k0 := 10) (C := RX10) (T := TX10) (N := 17) c_0 rfl rfl ⟨by rw [E.2.2.2.1]; exact cl_L8, ins_X10, ini_X10⟩ (E.dc dL_law_0) rfl ?_
  refine ko_dup hK (q := 4) rfl (E.dc dL_law_3) rfl ?_
  refine ko_init hK (q := 7) (S1 := tk 138) mX10_init [] (E.dc dL_law_4) rfl rfl (by decide) (Nat.le_of_ble_eq_true rfl) mo_X10_init ⟨rfl, rfl⟩ (Or.inl (by rw [E.2.2.2.1]; exact ml_L_15)) im_X10_init (Call_mono (by decide) (kc_X10_0 _)) ?_
  refine ko_astore_n hK (q := 8) [(1, .ref 0), (0, .ref 3000000)] rfl (by decide) (by rw [E.2.2.1]; decide) (E.dc dL_law_7) rfl ?_
  refine kn_new hK (q := 11) (n := 138) (n1 := 139) (k0 := 11) (C := RX11) (T := TX11) (N := 37) c_138 rfl rfl ⟨by rw [E.2.2.2.1]; exact cl_L16, ins_X11, ini_X11⟩ (E.dc dL_law_8) rfl ?_
  refine ko_dup hK (q := 12) rfl (E.dc dL_law_11) rfl ?_
  refine ko_init hK (q := 15) (S1 := tk 158) mX11_init [] (E.dc dL_law_12) rfl rfl (by decide) (Nat.le_of_ble_eq_true rfl) mo_X11_init ⟨rfl, rfl⟩ (Or.inl (by rw [E.2.2.2.1]; exact ml_L_18)) im_X11_init (Call_mono (by decide) (kc_X11_138 _)) ?_
  refine ko_astore_n hK (q := 16) [(2, .ref 138), (1, .ref 0), (0, .ref 3000000)] rfl (by decide) (by rw [E.2.2.1]; decide) (E.dc dL_law_15) rfl ?_
  refine ko_iconst hK (q := 17) ic_1 (E.dc dL_law_16) rfl ?_
  have e157 : (tk 158).length = 158 := tk_n (by decide)
  refine lw_newl E (q := 19) (by rw [e157]; decide) dL_law_17 rfl ?_
  rw [e157, tk_s c_158 rfl, tk158]
  refine ko_astore_n hK (q := 20) [(3, .ref 158), (2, .ref 138), (1, .ref 0), (0, .ref 3000000)] rfl (by decide) (by rw [E.2.2.1]; decide) (E.dc dL_law_19) rfl ?_
  refine ko_iconst hK (q := 21) ic_0 (E.dc dL_law_20) rfl ?_
  refine ko_istore hK (q := 23) [(4, .int 0), (3, .ref 158), (2, .ref 138), (1, .ref 0), (0, .ref 3000000)] rfl (by rw [E.2.2.1]; decide) (E.dc dL_law_21) rfl ?_
  refine LW.sub (ls' := [(4, .int (nI 0)), (0, .ref 3000000), (1, .ref 0), (2, .ref 138), (3, .ref 158)]) (fun q hq => ?_) (lw_loop E hL hend 1000 0 S0 mS0 (by omega) (Nat.zero_le _) ⟨[], (List.append_nil _).symm⟩ (by decide) (by decide +kernel) inv_S wi_S)
  simp only [List.mem_cons, List.not_mem_nil, or_false] at hq ⊢
  rcases hq with rfl | rfl | rfl | rfl | rfl
  · exact Or.inl rfl
  · exact Or.inr (Or.inr (Or.inr (Or.inr rfl)))
  · exact Or.inr (Or.inr (Or.inr (Or.inl rfl)))
  · exact Or.inr (Or.inr (Or.inl rfl))
  · exact Or.inr (Or.inl rfl)
end BEG
