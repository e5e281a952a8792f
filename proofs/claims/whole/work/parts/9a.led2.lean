/-! the class's led, where it throws: the walk begins anew at the place of the throw -/
section RH
variable {p : Program} {l : Launch} {e : Env} {R : Room} {s : State} {m : MethodId} {args : Array Value} {below : List Frame} {meth : Method} {c : Code} {T : State} {locs : List Loc}
def reh (s T : State) : State := ({ s with heap := T.heap, slotsUsed := T.slotsUsed } : State).setVm T.vm
theorem stand_reh (X : Stand p l e R s m args below meth c T locs 0 0) : Stand p l e R (reh s T) m args below meth c T [] 0 0 := by
  have hmeth : ∀ mm : MethodId, (reh s T).vm.method? mm = s.vm.method? mm := fun mm => X.warmed.alike.method? mm
  have hcode : ∀ mm : MethodId, (reh s T).code? mm = s.code? mm := fun mm => by
    rw [State.code?_eq, State.code?_eq, hmeth]
  have hF : (reh s T).frames = .invoking m args :: below := X.frames
  have hm' : (reh s T).vm.method? m = some meth := by rw [hmeth]; exact X.method
  have hU : (reh s T).localsInUse = s.localsInUse := by
    rw [State.localsInUse_invoking hF hm' X.code, State.localsInUse_invoking X.frames X.method X.code]
  have hz := X.heapSize
  have hu := X.used
  have hroom : (reh s T).hasRoom e.platform R = true := by
    have h := X.room
    have hb := X.book
    unfold State.hasRoom at h ⊢
    rw [hU]
    simp only [Bool.and_eq_true, decide_eq_true_eq] at h ⊢
    obtain ⟨⟨⟨⟨h1, h2⟩, h3⟩, h4⟩, h5⟩ := h
    exact ⟨⟨⟨⟨h1, h2⟩, show T.heap.size + R.cells ≤ _ by omega⟩, show T.slotsUsed + R.slots ≤ _ by omega⟩, hb⟩
  have hhears : (reh s T).hears m below = true := by
    have h := X.hears
    cases hb : below with
    | nil => rw [hb] at h; simp only [State.hears] at h ⊢; rw [hmeth]; exact h
    | cons f r =>
      rw [hb] at h
      cases f <;> simp only [State.hears] at h ⊢ <;> first | (rw [hcode]; exact h) | (rw [hmeth]; exact h) | exact h
  refine ⟨X.admits, X.cas, X.clock, hF, hroom, hhears, hm', X.code, X.here, X.tail, State.WarmedH.refl _, X.limits, X.bytes, ?_⟩
  have e := congrArg (fun z => State.setVm z T.vm) X.same.1
  refine ⟨e, Nat.le_refl _, Nat.le_refl _, ?_, ?_, fun a c hc => ⟨c, hc, rfl, rfl, fun _ _ => rfl⟩⟩
  · show T.slotsUsed = T.slotsUsed + ((T.heap.toList.drop T.heap.size).map (·.slots.size)).sum
    rw [List.drop_eq_nil_of_le (by simp)]
    rfl
  · show ((T.heap.toList.drop T.heap.size).map (·.slots.size)).sum ≤ 0
    rw [List.drop_eq_nil_of_le (by simp)]
    exact Nat.le_refl _
end RH
theorem cellR.kept {G : EV} {m : Me} {H H1 : Heap} {a k n : Nat} (h : cellR G m H a k n) (e : H1[gB G + a]? = H[gB G + a]?) : cellR G m H1 a k n := by
  obtain ⟨r1, r2, r3, r4⟩ := h
  refine ⟨fun hk => ?_, fun hk => by rw [e]; exact r2 hk, fun hk => by rw [e]; exact r3 hk, fun hk => by rw [e]; exact r4 hk⟩
  obtain ⟨q, h1, h2, h3⟩ := r1 hk
  exact ⟨q, h1, h2, h3.kept e⟩
/-- one cell more, of which nothing is asked -/
theorem Rep.junk {G : EV} {S : Sh} {m : Me} {H H1 : Heap} (h : Rep G (S, m) H) (hl : S.length < 999999) (hz : H1.size = H.size + 1) (ho : ∀ q, q < H.size → H1[q]? = H[q]?) : Rep G (S ++ [(18, 6)], m) H1 := by
  refine ⟨?_, ?_, fun a k n ha => ?_⟩
  · rw [hz, h.1]
    simp
    omega
  · simp
    omega
  · rcases Nat.lt_or_ge a S.length with h1 | h1
    · rw [List.getElem?_append_left h1] at ha
      refine (h.2.2 a k n ha).kept (ho _ ?_)
      have := h.1
      simp only at this
      omega
    · rw [List.getElem?_append_right h1] at ha
      have h2 : a - S.length = 0 := by
        rcases Nat.eq_zero_or_pos (a - S.length) with h3 | h3
        · exact h3
        · rw [List.getElem?_eq_none (by simp; omega)] at ha
          cases ha
      rw [h2] at ha
      cases ha
      exact ⟨fun h => absurd h (by decide), fun h => absurd h (by decide), fun h => absurd h (by decide), fun h => absurd h (by decide)⟩
def rmL : Room := { frames := 6, cells := 1, slots := 6, locals := 384 }
def QT (G : EV) (S : Sh) (mm : Me) : Array Value → State → Outcome → State → Prop := fun _ st o t => o = .threw st.heap.size ∧ Rep G (S ++ [(18, 6)], mm) t.heap ∧ va_F (A0 G) st t ∧ (∃ ce, t.heap[st.heap.size]? = some ce ∧ st.vm.findClass nse = some ce.cls ∧ ce.vm = .none) ∧ st.WarmedH t.vm ∧ ∃ L, (∀ q ∈ L, A0 G q.base) ∧ st.sameButNew ({ t with vm := st.vm } : State) L 1 6
section THR
variable {G : EV} {p : Program} {l : Launch} {e : Env} {s : State} {m : MethodId} {args : Array Value} {below : List Frame} {meth : Method} {c : Code} {H : Heap} {locs : List Loc} {S : Sh} {mm : Me} {lsA : Array Slot}
set_option maxHeartbeats 2000000 in
theorem led_new (F : FC G p s m args meth c mX10_led) (hZ : TH (A0 G) s) (hfl : l.flags = pinnedFlags ++ [noTraceFlag]) (hnoh : c.exceptionTable.isEmpty = true) (hlocks : meth.locks = false) (hlen : S.length < 999999) (h0 : s.heap.size = gB G + S.length) (hR : Rep G (S, mm) H) (hS : va_S (A0 G) s.heap H locs) (hsz : lsA.size = c.maxLocals) :
    W p l e rmL s m args below meth c H locs 0 0 (fun t => ∃ o, t.status = .running ∧ Ended t below o ∧ QT G S mm args s o t) (F0 m 26 lsA []) := by
  intro T hT X0
  have htr : e.platform.stackTraces = false := Launch.traces_off hfl X0.admits
  have hTz : T.heap.size = s.heap.size := by
    have h1 := X0.heapSize
    have h2 := X0.same.2.1
    have h3 : s.heap.size ≤ T.heap.size := h2
    omega
  have X := stand_reh X0
  have hws : s.WarmedH (reh s T).vm := X0.warmed
  have hown : (reh s T).vm.findClass RX10 = some m.cls := by rw [hws.alike.findClass]; exact F.2.2.2.1
  have hT' : ∀ w, inT w → w.before args (reh s T) = true := fun w hw => word_at hws (good_of_word hw.2) (F.2.2.2.2.1 w hw)
  have hZ' : TH (A0 G) (reh s T) := hZ.warm hws (fun a h1 h2 => by
    show T.heap[a]? = s.heap[a]?
    rw [hT]
    exact hS.2.1 a h1 h2)
  obtain ⟨vm₁, cX, kX, hfX, hkX, -, -, X₁, st1⟩ := X.newCold F.1 (own := RX10) (C := nse) (index := 365) (n := 6) hown (hT' _ nse_cl) (hT' _ nse_is) (hT' _ nse_in) (g := F0 m 26 lsA []) rfl (by rw [F.2.1]; exact dX10_led_26) (by decide) (by decide)
  generalize hT1 : (T.setVm vm₁).pushCell { cls := cX, slots := kX.instanceTypes.map defaultValue, vm := .none } = T1 at X₁ st1
  have hcellA : T1.heap[T.heap.size]? = some { cls := cX, slots := kX.instanceTypes.map defaultValue, vm := .none } := by rw [← hT1]; exact State.heap_pushCell_size _ _
  obtain ⟨U, hsteps, hrun, hend, hW, hsame, ce, hce, K⟩ := X₁.ctorThrow0 F.1 htr (own := RX10) (cls := nse) (names := nseUp) (ic := 367) hown (by decide +kernel) (by decide +kernel) (own_at hT' hZ') (fun y hy => by cases hy) hfX hkX hcellA (Nat.le_refl _)
    (g := F0 m 30 lsA [.ref T.heap.size, .ref T.heap.size]) rfl hsz rfl rfl (rest := []) rfl (by rw [F.2.1]; exact dX10_led_30) (by rw [F.2.1]; exact dX10_led_33) (covers_of_empty hnoh _) (by decide) (by simp [rmL, nseUp, Value.category]) hlocks
  have hUz : U.heap.size = T.heap.size + 1 := by
    have h1 : U.heap.size ≤ T.heap.size + 1 := hsame.2.2.1
    have h2 := (Array.getElem?_eq_some_iff.mp hce).1
    omega
  have hUo : ∀ q, q < T.heap.size → U.heap[q]? = T.heap[q]? := by
    intro q hq
    have hc : T.heap[q]? = some T.heap[q] := Array.getElem?_eq_getElem hq
    obtain ⟨c', e1, e2, e3, e4⟩ := hsame.2.2.2.2.2 q _ hc
    have e5 : c'.slots = T.heap[q].slots := by
      apply Array.ext_getElem?
      intro i
      exact e4 i (by simp)
    rw [e5] at e2
    rw [hc, show U.heap[q]? = some c' from e1, e2]
  refine ⟨U, ?_, .threw T.heap.size, hrun, hend, by rw [hTz], ?_, ?_, ⟨ce, by rw [← hTz]; exact hce, ?_, K.vm⟩, State.WarmedH.trans hws hW, locs, hS.2.2, ?_⟩
  · refine st1 _ ?_
    show Steps p.tables e below (T1.setTop (F0 m 29 lsA [.ref T.heap.size])) _
    jvm_step X₁.here [X₁.here.top, F.1, F.2.1, dX10_led_29, Value.category]
    exact hsteps
  · refine Rep.junk hR hlen ?_ ?_
    · rw [← hT]; exact hUz
    · rw [← hT]; exact hUo
  · refine ⟨by rw [hUz, hTz]; exact Nat.le_succ _, fun q h1 h2 => ?_⟩
    rw [hUo q (by omega), hT]
    exact hS.2.1 q h1 h2
  · have := K.cls
    rw [hws.alike.findClass] at this
    exact this
  · have e1 := congrArg (fun z => State.setVm z s.vm) hsame.1
    have q := X0.same
    have hq4 : T.slotsUsed = s.slotsUsed := by
      have h4 : T.slotsUsed = s.slotsUsed + ((T.heap.toList.drop s.heap.size).map (·.slots.size)).sum := q.2.2.2.1
      rw [List.drop_eq_nil_of_le (by simp [hTz])] at h4
      exact h4
    refine ⟨e1, ?_, ?_, ?_, ?_, fun a c hc => ?_⟩
    · show s.heap.size ≤ U.heap.size
      omega
    · show U.heap.size ≤ s.heap.size + 1
      omega
    · show U.slotsUsed = s.slotsUsed + ((U.heap.toList.drop s.heap.size).map (·.slots.size)).sum
      rw [← hTz, ← hq4]
      exact hsame.2.2.2.1
    · show ((U.heap.toList.drop s.heap.size).map (·.slots.size)).sum ≤ 6
      rw [← hTz]
      exact hsame.2.2.2.2.1
    · obtain ⟨c', f1, f2, f3, f4⟩ := q.2.2.2.2.2 a c hc
      have ha : a < T.heap.size := by rw [hTz]; exact (Array.getElem?_eq_some_iff.mp hc).1
      exact ⟨c', (hUo a ha).trans f1, f2, f3, f4⟩
set_option maxHeartbeats 2000000 in
theorem led_thr {x : Int32} {ls : Lo} (hfl : l.flags = pinnedFlags ++ [noTraceFlag]) (hlen : S.length < 999999) (hw : Wy (Call 3) mX10_led (26, ls, [], S, mm) (0, [(0, .ref 0), (1, .int x)], [], S, mm)) :
    MetFree l yX10_led (headSpec (WS mX10_led) rmL) (fun a U => PcG G [.ref 0, .int x] (S, mm) a U ∧ TH (A0 G) U) (fun _ _ _ _ _ => True) (QT G S mm) := by
  refine MetFree.of_bodyS (code := cX10_led) (maxLocals := 3) (ret := some .int) (by decide +kernel) ?_ ?_
  · intro args s m h hn
    obtain ⟨meth, c, h1, h2, h3, h4, h5, h6, -, -⟩ := Cond.code_spec hn (atoms_spec (ws := WS mX10_led) h _ List.mem_cons_self)
    exact ⟨meth, c, h1, h2, h3, h4, h5, h6⟩
  · intro p e s m args below meth c s₁ B hml hP _
    obtain ⟨⟨rfl, hRep, hWC⟩, hTH⟩ := hP
    have hts := atoms_spec (ws := WS mX10_led) B.pre
    have F : FC G p s m (cst G [.ref 0, .int x]).toArray meth c mX10_led := ⟨B.exec, B.bytes, hml, findClass_of_methodNamed B.named, fun w hw => hts w (List.mem_cons_of_mem _ (inT_TB hw)), hWC, (name_of_methodNamed B.named B.method).1⟩
    have hlocks := B.notSynchronized
    have hnoh := B.noHandlers (hts _ List.mem_cons_self)
    have hcat : ∀ v ∈ ([.ref 0, .int x] : List Value), v.category = 1 := by simp [Value.category]
    have hcat' : ∀ v ∈ cst G [.ref 0, .int x], v.category = 1 := by
      intro v hv
      obtain ⟨w, hw, rfl⟩ := List.mem_map.mp hv
      rw [cv_cat hWC]
      exact hcat w hw
    have hh0 : s₁.heap = s.heap := by rw [B.state]; rfl
    have hl := lv_entry (cst G [.ref 0, .int x]) (n := 3) (by rw [lgsl_len hcat']; show 2 ≤ 3; decide)
    obtain ⟨n, hp⟩ := hw
    have K : W p l e rmL s m (cst G [.ref 0, .int x]).toArray below meth c s.heap [] 0 0 (fun t => ∃ o, t.status = .running ∧ Ended t below o ∧ QT G S mm (cst G [.ref 0, .int x]).toArray s o t) (entryFrame m (cst G [.ref 0, .int x]).toArray 3) := by
      rw [lg_entry_eq]
      generalize (lg_sl (cst G [.ref 0, .int x]) ++ List.replicate (3 - (lg_sl (cst G [.ref 0, .int x])).length) Slot.unset).toArray = lsA at hl ⊢
      rw [lvargs_cls hWC] at hl
      have hl' : LocOK G lsA c.maxLocals (lv_args 0 [.ref 0, .int x]) := ⟨by rw [hml]; exact hl, lvargs_cat hcat 0⟩
      refine (pathW F (simC 3) ⟨by decide, by decide⟩ n (0, [(0, .ref 0), (1, .int x)], [], S, mm) (26, ls, [], S, mm) s.heap [] 0 0 lsA hp ⟨by simp [rmL], by simp [rmL]⟩ hRep va_S.rf hl' ?_).2
      intro H1 locs1 lsA1 r1 r2 r3
      simp only [Nat.sub_self, Nat.add_zero]
      exact led_new F hTH hfl hnoh hlocks hlen hRep.1 r1 r2 r3.1.1
    obtain ⟨t, a1, o, b1, b2, b3⟩ := K s₁ hh0 (Stand.of_body B)
    exact ⟨t, o, a1, b1, b2, b3⟩
end THR
