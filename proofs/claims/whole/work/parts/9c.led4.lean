/-! the law's own led, as a contract -/
section ST14
variable {G : EV} {p : Program} {l : Launch} {e : Env} {R : Room} {s : State} {m : MethodId} {args : Array Value} {below : List Frame} {meth : Method} {c : Code} {H : Heap} {locs : List Loc} {cells slots : Nat} {Q : State → Prop} {μ : MI}
variable {pc : Nat} {ls : Lo} {st : List Value} {S : Sh} {mm : Me} {lsA : Array Slot}
theorem s_last (F : FC G p s m args meth c μ) {a n : Nat} {i x : Int32} {st' : List Value} (hd : decode μ.2.1 pc = .ok (.lastore, 1)) (ha : S[a]? = some (14, n)) (hin : vp_in i n) (hR : Rep G (S, mm) H) (hS : va_S (A0 G) s.heap H locs)
    (k' : ∀ (H1 : Heap) (locs1 : List Loc), Rep G (S, setI mm a i.toNatClampNeg x) H1 → va_S (A0 G) s.heap H1 locs1 → W p l e R s m args below meth c H1 locs1 cells slots Q (F0 m (pc + 1) lsA st')) : W p l e R s m args below meth c H locs cells slots Q (F0 m pc lsA (.long x.toInt64 :: .int i :: cv G (.ref a) :: st')) := by
  rw [hR.ref (σ := (S, mm)) ha]
  refine W.last F.1 F.2.1 ((hR.2.2 a 14 n ha).2.2.1 rfl) ((arrK F).2.2.1 _ _) (fun q => by cases q) (by rw [arrV_size]; exact hin) rfl rfl hd fun H1 e1 e2 e3 => ?_
  refine k' H1 _ (hR.upd ha e2 e3 (fun b j hb => ⟨if_neg (fun h => hb h.1), rfl⟩) ⟨fun h => by omega, fun h => by omega, fun _ => ?_, fun h => by omega⟩) (hS.put e2 e3 (Nat.le_add_right _ _))
  rw [e1]
  congr 1
  refine arrV_put fun j => ?_
  show Value.long (if a = a ∧ j = i.toNatClampNeg then x else mm.1 a j).toInt64 = _
  by_cases h : j = i.toNatClampNeg <;> simp [h]
theorem s_lald (F : FC G p s m args meth c μ) {a n : Nat} {i : Int32} {st' : List Value} (hd : decode μ.2.1 pc = .ok (.laload, 1)) (ha : S[a]? = some (14, n)) (hin : vp_in i n) (hR : Rep G (S, mm) H) (k' : W p l e R s m args below meth c H locs cells slots Q (F0 m (pc + 1) lsA (.long (mm.1 a i.toNatClampNeg).toInt64 :: st'))) : W p l e R s m args below meth c H locs cells slots Q (F0 m pc lsA (.int i :: cv G (.ref a) :: st')) := by
  rw [hR.ref (σ := (S, mm)) ha]
  have hlt : i.toNatClampNeg < n := Nat.not_le.mp fun q => hin (Or.inr q)
  exact W.lald F.1 F.2.1 ((hR.2.2 a 14 n ha).2.2.1 rfl) ((arrK F).2.2.1 _ _) (fun q => by cases q) (by rw [arrV_size]; exact hin) (arrV_read _ _ hlt) rfl rfl hd k'
end ST14
def rmM (k n : Nat) : Room := { frames := 30, cells := k, slots := n, locals := 2000 }
def PcT (G : EV) (vs : List Value) (σ : Sm) : Array Value → State → Prop := fun a U => PcG G vs σ a U ∧ TH (A0 G) U
theorem cw_mem : Cond.codeWith yL_led cL_led 4 (some .int) [(0, 9, 12, 13)] ∈ TB := inT_TB cw_led
section ML
variable {G : EV} {l : Launch} {S : Sh} {mm : Me} {x : Int32}
theorem Met.ofL {rm : Room} {vs : List Value} {σ : Sm} {r : Int32} {σ1 : Sm} {mc ms : Nat} (hcat : ∀ v ∈ vs, v.category = 1) (hlen : vs.length = 3)
    (body : ∀ p e s m below meth c lsA, FC G p s m (cst G vs).toArray meth c mL_led → meth.locks = false → meth.sig.returnType = some .int → c.exceptionTable.toList.map (fun h => (h.startPc, h.endPc, h.handlerPc, h.catchType)) = [(0, 9, 12, 13)] → TH (A0 G) s → Rep G σ s.heap → LocOK G lsA c.maxLocals (lv_args 0 vs) →
      W p l e rm s m (cst G vs).toArray below meth c s.heap [] 0 0 (MQ below (QcG G (some (.int r)) σ1) (cst G vs).toArray s mc ms (A0 G)) (F0 m 0 lsA [])) : Met l yL_led TB rm (PcT G vs σ) (QcG G (some (.int r)) σ1) mc ms (A0 G) := by
  refine MetFree.of_bodyS (code := cL_led) (maxLocals := 4) (ret := some .int) (by decide +kernel) ?_ ?_
  · intro args s m h hn
    obtain ⟨m', meth, c, h0, h1, h2, h3, h4, h5, h6, h7, h8⟩ := Cond.codeWith_spec (atoms_spec (ws := TB) h _ cw_mem)
    cases h0.symm.trans hn
    exact ⟨meth, c, h1, h2, h3, h4, h6, h7⟩
  · intro p e s m args below meth c s₁ B hml hP _
    obtain ⟨⟨rfl, hRep, hWC⟩, hTH⟩ := hP
    have hts := atoms_spec (ws := TB) B.pre
    have F : FC G p s m (cst G vs).toArray meth c mL_led := ⟨B.exec, B.bytes, hml, findClass_of_methodNamed B.named, fun w hw => hts w (inT_TB hw), hWC, (name_of_methodNamed B.named B.method).1⟩
    obtain ⟨m', meth', c', h0, h1, h2, h3, h4, h5, h6, h7, h8⟩ := Cond.codeWith_spec (hts _ cw_mem)
    cases h0.symm.trans B.named
    cases h1.symm.trans B.method
    cases h2.symm.trans (Stand.of_body B).code
    have hcat' : ∀ v ∈ cst G vs, v.category = 1 := by
      intro v hv
      obtain ⟨w, hw, rfl⟩ := List.mem_map.mp hv
      rw [cv_cat hWC]
      exact hcat w hw
    have hh0 : s₁.heap = s.heap := by rw [B.state]; rfl
    have hl := lv_entry (cst G vs) (n := 4) (by rw [lgsl_len hcat']; simp [cst, hlen])
    have K : W p l e rm s m (cst G vs).toArray below meth c s.heap [] 0 0 (MQ below (QcG G (some (.int r)) σ1) (cst G vs).toArray s mc ms (A0 G)) (entryFrame m (cst G vs).toArray 4) := by
      rw [lg_entry_eq]
      generalize (lg_sl (cst G vs) ++ List.replicate (4 - (lg_sl (cst G vs)).length) Slot.unset).toArray = lsA at hl ⊢
      rw [lvargs_cls hWC] at hl
      exact body p e s m below meth c lsA F h7 h6 h5 hTH hRep ⟨by rw [hml]; exact hl, lvargs_cat hcat 0⟩
    obtain ⟨t, a1, o, b1, b2, b3⟩ := K s₁ hh0 (Stand.of_body B)
    exact ⟨t, o, a1, b1, b2, ⟨b3.1, b3.2⟩⟩
set_option maxHeartbeats 2000000 in
theorem metL_ok (hS : ShOK S) (hl0 : S[158]? = some (14, 1)) {c : Nat} (hc : Call 4 mX10_led [.ref 0, .int x] (S, mm) (some (.int (nI c))) (S, mm)) : Met l yL_led TB (rmM 0 0) (PcT G [.ref 0, .int x, .ref 158] (S, mm)) (QcG G (some (.int 0)) (S, setI mm 158 0 (nI c))) 0 0 (A0 G) := by
  refine Met.ofL (by simp [Value.category]) rfl fun p e s m below meth cd lsA F hlocks hr htab hTH hRep hl => ?_
  have hw : Wy (Call 4) mL_led (7, [(0, .ref 0), (1, .int x), (2, .ref 158)], [.int (nI c), .int 0, .ref 158], S, mm) (0, [(0, .ref 0), (1, .int x), (2, .ref 158)], [], S, mm) := by
    refine ko_aload_n Wy.cl (q := 1) rfl (by decide) dL_led_0 rfl ?_
    refine ko_iconst Wy.cl (q := 2) ic_0 dL_led_1 rfl ?_
    refine ko_aload_n Wy.cl (q := 3) rfl (by decide) dL_led_2 rfl ?_
    refine ko_iload_n Wy.cl (q := 4) rfl dL_led_3 rfl ?_
    exact ko_virt Wy.cl (q := 7) mX10_led [.int x] dL_led_4 rfl rfl (Nat.le_of_ble_eq_true rfl) mo_X10_led mv_L_7 (Or.inl ⟨10, 17, _, h_0 hS, rfl, rfl⟩) hc Wy.rf
  obtain ⟨n, hp⟩ := hw
  refine (pathW F (simC 4) ⟨by decide, by decide⟩ n _ _ s.heap [] 0 0 lsA hp ⟨by simp [rmM], by simp [rmM]⟩ hRep va_S.rf hl ?_).2
  intro H1 locs1 lsA1 r1 r2 r3
  simp only [Nat.sub_self, Nat.add_zero]
  refine lv_i2l F.1 F.2.1 dL_led_7 rfl ?_
  refine s_last F (i := 0) (x := nI c) (st' := []) dL_led_8 hl0 (show inb 0 1 by decide) r1 r2 fun H2 locs2 t1 t2 => ?_
  have hw2 : Wy (Call 4) mL_led (16, [(0, .ref 0), (1, .int x), (2, .ref 158)], [.int 0], S, setI mm 158 0 (nI c)) (9, [(0, .ref 0), (1, .int x), (2, .ref 158)], [], S, setI mm 158 0 (nI c)) := by
    refine ko_goto Wy.cl (q := 15) dL_led_9 rfl ?_
    exact ko_iconst Wy.cl (q := 16) ic_0 dL_led_15 rfl Wy.rf
  obtain ⟨n2, hp2⟩ := hw2
  refine (pathW F (simC 4) ⟨by decide, by decide⟩ n2 _ _ H2 locs2 0 0 lsA1 hp2 ⟨by simp [rmM], by simp [rmM]⟩ t1 t2 r3 ?_).2
  intro H3 locs3 lsA3 u1 u2 u3
  simp only [Nat.sub_self, Nat.add_zero]
  exact W.zret (ty := .int) F.1 F.2.1 hr rfl (fun t ht hW => ⟨rfl, by rw [ht]; exact u1, u2.F ht⟩) u2.2.2 dL_led_16 hlocks
set_option maxHeartbeats 2000000 in
theorem metL_no (hS : ShOK S) (hlen : S.length < 999999) (hM : MetFree l yX10_led (headSpec (WS mX10_led) rmL) (fun a U => PcG G [.ref 0, .int x] (S, mm) a U ∧ TH (A0 G) U) (fun _ _ _ _ _ => True) (QT G S mm)) : Met l yL_led TB (rmM 1 6) (PcT G [.ref 0, .int x, .ref 158] (S, mm)) (QcG G (some (.int 1)) (S ++ [(18, 6)], mm)) 1 6 (A0 G) := by
  refine Met.ofL (by simp [Value.category]) rfl fun p e s m below meth cd lsA F hlocks hr htab hTH hRep hl => ?_
  have hw : Wy (Call 4) mL_led (4, [(0, .ref 0), (1, .int x), (2, .ref 158)], [.int x, .ref 0, .int 0, .ref 158], S, mm) (0, [(0, .ref 0), (1, .int x), (2, .ref 158)], [], S, mm) := by
    refine ko_aload_n Wy.cl (q := 1) rfl (by decide) dL_led_0 rfl ?_
    refine ko_iconst Wy.cl (q := 2) ic_0 dL_led_1 rfl ?_
    refine ko_aload_n Wy.cl (q := 3) rfl (by decide) dL_led_2 rfl ?_
    exact ko_iload_n Wy.cl (q := 4) rfl dL_led_3 rfl Wy.rf
  obtain ⟨n, hp⟩ := hw
  refine (pathW F (simC 4) ⟨by decide, by decide⟩ n _ _ s.heap [] 0 0 lsA hp ⟨by simp [rmM], by simp [rmM]⟩ hRep va_S.rf hl ?_).2
  intro H1 locs1 lsA1 r1 r2 r3
  simp only [Nat.sub_self, Nat.add_zero]
  show W p l e (rmM 1 6) s m _ below meth cd H1 locs1 0 0 _ (F0 m 4 lsA1 [.int x, cv G (.ref 0), .int 0, cv G (.ref 158)])
  rw [cv_ref (a := 0) (by decide)]
  refine lled_catch F hTH htab hM (h_0 hS) r1 r2 r3.1.1 ⟨by decide, by decide, by decide, by decide⟩ (by rw [cv_cat F.2.2.2.2.2.1]; rfl) fun H2 locs2 t1 t2 => ?_
  have hw2 : Wy (Call 4) mL_led (14, [(3, .ref S.length), (0, .ref 0), (1, .int x), (2, .ref 158)], [.int 1], S ++ [(18, 6)], mm) (12, [(0, .ref 0), (1, .int x), (2, .ref 158)], [.ref S.length], S ++ [(18, 6)], mm) := by
    refine ko_astore_n Wy.cl (q := 13) [(3, .ref S.length), (0, .ref 0), (1, .int x), (2, .ref 158)] rfl (by omega) (by decide) dL_led_12 rfl ?_
    exact ko_iconst Wy.cl (q := 14) ic_1 dL_led_13 rfl Wy.rf
  obtain ⟨n2, hp2⟩ := hw2
  rw [← cv_ref (G := G) (a := S.length) (by omega)]
  refine (pathW F (simC 4) ⟨by decide, by decide⟩ n2 _ _ H2 locs2 1 6 lsA1 hp2 ⟨by simp [rmM], by simp [rmM]⟩ t1 t2 r3 ?_).2
  intro H3 locs3 lsA3 u1 u2 u3
  simp only [Nat.sub_self, Nat.add_zero]
  exact W.zret (ty := .int) F.1 F.2.1 hr rfl (fun t ht hW => ⟨rfl, by rw [ht]; exact u1, u2.F ht⟩) u2.2.2 dL_led_14 hlocks
end ML
