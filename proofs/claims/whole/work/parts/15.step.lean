section STEP
variable {G : EV} {p : Program} {l : Launch} {e : Env} {R : Room} {s : State} {m : MethodId} {args : Array Value} {below : List Frame} {meth : Method} {c : Code} {H : Heap} {locs : List Loc} {cells slots : Nat} {Q : State → Prop} {μ : MI}
variable {pc : Nat} {ls : Lo} {st : List Value} {S : Sh} {mm : Me} {lsA : Array Slot}
def tM : String := "java/lang/String"
theorem strs_lt {i : Nat} {q : String × Nat × String} (h : strs[i]? = some q) : i < 32 := (List.getElem?_eq_some_iff.mp h).1
theorem s_call_end {vs st' : List Value} {r : Option Value} {σ1 : Sm} {st0 : List Value} (hS : va_S (A0 G) s.heap H locs) (hl : LocOK G lsA c.maxLocals ls)
    (hr : va_Run p l e R s m args below meth c H locs cells slots (σ1.1.length - S.length) (nS σ1.1 - nS S) (F0 m pc lsA st0) (cst G st') (QcG G r σ1 (cst G vs).toArray) (A0 G)) (kk : KK G p l e R s m args below meth c cells slots Q S (pc + 3, ls, r.toList ++ st', σ1)) : W p l e R s m args below meth c H locs cells slots Q (F0 m pc lsA st0) := by
  refine callW_ hr fun v st₀ t L h0 hq hL => ?_
  obtain ⟨q1, q2, q3⟩ := hq
  have hv : v = r.map (cv G) := by injection q1
  rw [hv, cst_ret]
  exact kk _ _ _ q2 (hS.call h0 q3 hL) hl
theorem s_virt (F : FC G p s m args meth c μ) {d ix : Nat} {μ' : MI} {vs st' : List Value} {a : Nat} {r : Option Value} {σ1 : Sm} (hd : decode μ.2.1 pc = .ok (.invokevirtual ix, 3)) (hlen : cats st' ≤ 8) (hm : mOk μ' vs.length) (h1 : inT (.methodLink μ.1.cls ix μ'.1)) (h2 : inT (.instanceMethod μ'.1)) (h3 : inT (.selects μ'.1.cls μ'.1 μ'.1)) (hrec : (∃ k n q, S[a]? = some (k, n) ∧ vwCl[k]? = some q ∧ q.1 = μ'.1.cls) ∨ (∃ i, a = 1000000 + i ∧ i < 32 ∧ μ'.1.cls = "java/lang/String"))
    (hM : MetG G l d μ' (.ref a :: vs) (S, mm) r σ1) (hRm : d + 1 ≤ R.frames ∧ 64 * (d + 1) ≤ R.locals) (hroom : cells + (σ1.1.length - S.length) ≤ R.cells ∧ slots + (nS σ1.1 - nS S) ≤ R.slots) (hR : Rep G (S, mm) H) (hS : va_S (A0 G) s.heap H locs) (hl : LocOK G lsA c.maxLocals ls) (kk : KK G p l e R s m args below meth c cells slots Q S (pc + 3, ls, r.toList ++ st', σ1)) : W p l e R s m args below meth c H locs cells slots Q (F0 m pc lsA (cst G (vs.reverse ++ .ref a :: st'))) := by
  have hb : ∃ b, cv G (.ref a) = .ref b ∧ ∃ cellB : Cell, H[b]? = some cellB ∧ cellB.vm.isStatics = false ∧ s.vm.findClass μ'.1.cls = some cellB.cls := by
    rcases hrec with ⟨k, n, q, ha, hv, hq⟩ | ⟨i, rfl, hi, hq⟩
    · obtain ⟨q', hv', -, cell, o1, o2, o3, -⟩ := (hR.2.2 a k n ha).1 (vw_lt hv)
      obtain ⟨-, hfc, -⟩ := F.2.2.2.2.2.1.1.1 k _ hv
      refine ⟨_, hR.ref (σ := (S, mm)) ha, cell, o1, by rw [o3]; rfl, ?_⟩
      rw [← hq, o2]
      exact hfc
    · obtain ⟨q1, -⟩ := F.2.2.2.2.2.1.2.2.2.2.1 i hi
      obtain ⟨cell, o1, o2, o3, -⟩ := q1.kept hS.2.1
      exact ⟨_, cv_str hi, cell, o1, o2, by rw [hq]; exact o3⟩
  obtain ⟨b, hcb, hcell⟩ := hb
  rw [cst_call hcb]
  have hv : cst G (.ref a :: vs) = .ref b :: cst G vs := by show cv G (.ref a) :: _ = _; rw [hcb]; rfl
  refine s_call_end (vs := .ref a :: vs) hS hl ?_ kk
  have hpre := PcG.pre (vs := .ref a :: vs) F.2.2.2.2.2.1 hS hR
  rw [hv] at hpre ⊢
  exact va_runV (Ts := TB) (own := μ.1.cls) (C := μ'.1.cls) ⟨F.1, F.2.1, F.2.2.1, F.2.2.2.1, F.tb⟩ (hM.2 (Or.inr hm)) ⟨callB_ F hm h1 hRm, F.2.2.2.2.1 _ h2, F.2.2.2.2.1 _ h3⟩ ⟨PcG.blind, hcell, hpre⟩ rfl (by simp [cst]) (hl.1.1.trans F.2.2.1) rfl (lv_room (cst_room F.2.2.2.2.2.1 hlen)) hd hroom
theorem s_stat (F : FC G p s m args meth c μ) {d ix : Nat} {μ' : MI} {vs st' : List Value} {r : Option Value} {σ1 : Sm} (hd : decode μ.2.1 pc = .ok (.invokestatic ix, 3)) (hlen : cats st' ≤ 8) (hm : mOk μ' vs.length) (h1 : inT (.methodLink μ.1.cls ix μ'.1) ∨ .methodLinkNest μ.1.cls ix μ'.1 "FanParts" ∈ nestW) (h2 : inT (.static μ'.1))
    (hM : MetG G l d μ' vs (S, mm) r σ1) (hRm : d + 1 ≤ R.frames ∧ 64 * (d + 1) ≤ R.locals) (hroom : cells + (σ1.1.length - S.length) ≤ R.cells ∧ slots + (nS σ1.1 - nS S) ≤ R.slots) (hR : Rep G (S, mm) H) (hS : va_S (A0 G) s.heap H locs) (hl : LocOK G lsA c.maxLocals ls) (kk : KK G p l e R s m args below meth c cells slots Q S (pc + 3, ls, r.toList ++ st', σ1)) : W p l e R s m args below meth c H locs cells slots Q (F0 m pc lsA (cst G (vs.reverse ++ st'))) := by
  rw [cst_callS]
  refine s_call_end (vs := vs) hS hl ?_ kk
  rcases h1 with h1 | h1
  · exact va_runS (Ts := TB) (own := μ.1.cls) ⟨F.1, F.2.1, F.2.2.1, F.2.2.2.1, F.tb⟩ (hM.2 (Or.inl hm)) ⟨callB_ F hm h1 hRm, F.2.2.2.2.1 _ h2⟩ ⟨PcG.blind, PcG.pre F.2.2.2.2.2.1 hS hR⟩ rfl (by simp [cst]) (hl.1.1.trans F.2.2.1) rfl (lv_room (cst_room F.2.2.2.2.2.1 hlen)) hd hroom
  · exact va_runSN (Ts := TB) (own := μ.1.cls) ⟨F.1, F.2.1, F.2.2.1, F.2.2.2.1, F.tb⟩ (hM.2 (Or.inl hm)) ⟨callN_ F hm h1 hRm, F.2.2.2.2.1 _ h2, trivial⟩ ⟨PcG.blind, PcG.pre F.2.2.2.2.2.1 hS hR⟩ rfl (by simp [cst]) (hl.1.1.trans F.2.2.1) rfl (lv_room (cst_room F.2.2.2.2.2.1 hlen)) hd hroom
theorem s_init (F : FC G p s m args meth c μ) {d ix : Nat} {μ' : MI} {vs st' : List Value} {a : Nat} {σ1 : Sm} (hd : decode μ.2.1 pc = .ok (.invokespecial ix, 3)) (hlen : cats st' ≤ 8) (hm : mOk μ' vs.length) (hn : μ'.1.name = "<init>") (hnr : μ'.2.2.2 = none) (ha : a < 1000000) (h1 : inT (.methodLink μ.1.cls ix μ'.1) ∨ .methodLinkNest μ.1.cls ix μ'.1 "FanParts" ∈ nestW) (h2 : inT (.instanceMethod μ'.1))
    (hM : MetG G l d μ' (.ref a :: vs) (S, mm) none σ1) (hRm : d + 1 ≤ R.frames ∧ 64 * (d + 1) ≤ R.locals) (hroom : cells + (σ1.1.length - S.length) ≤ R.cells ∧ slots + (nS σ1.1 - nS S) ≤ R.slots) (hR : Rep G (S, mm) H) (hS : va_S (A0 G) s.heap H locs) (hl : LocOK G lsA c.maxLocals ls) (kk : KK G p l e R s m args below meth c cells slots Q S (pc + 3, ls, st', σ1)) : W p l e R s m args below meth c H locs cells slots Q (F0 m pc lsA (cst G (vs.reverse ++ .ref a :: st'))) := by
  have hcb : cv G (.ref a) = .ref (gB G + a) := cv_ref ha
  rw [cst_call hcb]
  have hv : cst G (.ref a :: vs) = .ref (gB G + a) :: cst G vs := by show cv G (.ref a) :: _ = _; rw [hcb]; rfl
  refine s_call_end (vs := .ref a :: vs) (r := none) hS hl ?_ kk
  have hpre := PcG.pre (vs := .ref a :: vs) F.2.2.2.2.2.1 hS hR
  rw [hv] at hpre ⊢
  rcases h1 with h1 | h1
  · have cb := callB_ F (σ := (S, mm)) (σ1 := σ1) hm h1 hRm
    rw [hnr] at cb
    exact va_runI (Ts := TB) (own := μ.1.cls) ⟨F.1, F.2.1, F.2.2.1, F.2.2.2.1, F.tb⟩ (hM.2 (Or.inr hm)) ⟨cb, hn, F.2.2.2.2.1 _ h2⟩ ⟨PcG.blind, hpre⟩ rfl (by simp [cst]) (hl.1.1.trans F.2.2.1) rfl (lv_room (cst_room F.2.2.2.2.2.1 hlen)) hd hroom
  · have cb := callN_ F (σ := (S, mm)) (σ1 := σ1) hm h1 hRm
    rw [hnr] at cb
    exact va_runIN (Ts := TB) (own := μ.1.cls) ⟨F.1, F.2.1, F.2.2.1, F.2.2.2.1, F.tb⟩ (hM.2 (Or.inr hm)) ⟨cb, hn, F.2.2.2.2.1 _ h2⟩ ⟨PcG.blind, hpre⟩ rfl (by simp [cst]) (hl.1.1.trans F.2.2.1) rfl (lv_room (cst_room F.2.2.2.2.2.1 hlen)) hd hroom
end STEP
