/-! the law's own led: what it catches -/
section CC
variable {e : Env} {s : State} {f : JFrame} {a : Addr}
theorem fh_cold {x : ExceptionTableEntry} {t : List ExceptionTableEntry} {c : ClassId} {cell : Cell} {vm₂ : Vm} (hx : covers x f.pc = true) (h0 : x.catchType ≠ 0)
    (hg : (resolveClass f.method.cls x.catchType).Gives e.toSetting s.vm (.ok c) vm₂) (hcell : s.heap[a]? = some cell) (hobj : ∀ k, cell.vm ≠ .statics k)
    (hk : ∃ k, vm₂.classes[cell.cls]? = some k) (hc : ∃ k, vm₂.classes[c]? = some k) (hfit : vm₂.assignable cell.cls c = true) (hsz : vm₂.classes.size ≤ s.vm.classes.size) (Q : Handler → Pre) (E : CtlPost) (d : Bool) (acts : List Action) :
    wp (findHandler.go f a (x :: t)) Q E e d acts s ↔ Q (.found x.handlerPc) d acts (s.setVm vm₂) := by
  simp only [covers] at hx
  have hg' : (VmOp.resolveClass f.method.cls x.catchType).answer e s.vm = .ok c ∧ (VmOp.resolveClass f.method.cls x.catchType).tables e s.vm = vm₂ := hg.op rfl
  obtain ⟨ha, ht⟩ := hg'
  have hk1 : ∃ k, (s.setVm vm₂).vm.classes[cell.cls]? = some k := hk
  have hk2 : ∃ k, (s.setVm vm₂).vm.classes[c]? = some k := hc
  have hf2 : (s.setVm vm₂).vm.assignable cell.cls c = true := hfit
  have hl := VmOp.lands_eq (op := VmOp.resolveClass f.method.cls x.catchType) (e := e) (s := s) ht hsz
  simp [findHandler.go, hx, h0, ha, hl, hcell, hobj, hk, hc, hfit, VmOp.dirties, VmOp.acts]
theorem st_cold {r : List Frame} {pc : Nat} {vm₂ : Vm} (hfind : ∀ (Q : Handler → Pre) (E : CtlPost) (d : Bool) (acts : List Action), wp (findHandler f a) Q E e d acts s ↔ Q (.found pc) d acts (s.setVm vm₂)) :
    (stepThrowing e s a (.java f :: r)).Is ((s.setVm vm₂).setFrames (.java { f with pc := pc, stack := [.ref a] } :: r)) [] := by
  simp only [stepThrowing, searchFrame, vmDo]
  generalize hr : Sem.go _ e false [] s = res
  obtain ⟨as, rfl, ha⟩ := Sem.eq_ok_of hr (a := Handler.found pc) (s' := s.setVm vm₂) (acts' := []) (by simp [hfind _ _ _ _])
  exact ⟨rfl, ha⟩
theorem caught_cold {tb : Tables} {target : State} {g : JFrame} {c : Code} {below : List Frame} (h : At s g.method c below) {pc : Nat} {vm₂ : Vm}
    (hfind : ∀ (Q : Handler → Pre) (E : CtlPost) (d : Bool) (acts : List Action), wp (findHandler g a) Q E e d acts ((s.setTop g).pushFrame (.throwing a)) ↔ Q (.found pc) d acts (((s.setTop g).pushFrame (.throwing a)).setVm vm₂))
    (hrest : Steps tb e below ((s.setVm vm₂).setTop { g with pc := pc, stack := [.ref a] }) target) : Steps tb e below ((s.setTop g).pushFrame (.throwing a)) target := by
  obtain ⟨hgo, hw⟩ := h.throwing a
  refine Steps.head hgo hw ?_
  rw [stepThread_throwing (frames_entered h.top _), (st_cold (s := (s.setTop g).pushFrame (.throwing a)) hfind).1]
  obtain ⟨g₀, hg⟩ := Option.isSome_iff_exists.mp h.top
  obtain ⟨r, hr⟩ := State.topJava?_eq_some.mp hg
  have hr' : (s.setVm vm₂).frames = .java g₀ :: r := hr
  rw [State.setTop_of_frames _ hr'] at hrest
  have e1 : ∀ fs, (((s.setTop g).pushFrame (.throwing a)).setVm vm₂).setFrames fs = (((s.setTop g).pushFrame (.throwing a)).setFrames fs).setVm vm₂ := fun _ => rfl
  rw [e1, State.pushFrame, State.setFrames_setFrames, State.setTop_of_frames _ hr, State.setFrames_setFrames, hr]
  exact hrest
end CC
abbrev mL_led : MI := (yL_led, cL_led, 4, some .int)
theorem cw_led : inT (.codeWith yL_led cL_led 4 (some .int) [(0, 9, 12, 13)]) := ⟨by decide +kernel, by decide +kernel⟩
theorem cl_L13 : inT (.classLink RL 13 nse) := ⟨by decide +kernel, by decide +kernel⟩
section LL
variable {G : EV} {p : Program} {l : Launch} {e : Env} {R : Room} {s : State} {m : MethodId} {args : Array Value} {below : List Frame} {meth : Method} {c : Code} {H : Heap} {locs : List Loc} {cells slots : Nat} {Q : State → Prop} {S : Sh} {mm : Me} {lsA : Array Slot}
set_option maxHeartbeats 2000000 in
theorem lled_catch (F : FC G p s m args meth c mL_led) (hZ : TH (A0 G) s) (htab : c.exceptionTable.toList.map (fun h => (h.startPc, h.endPc, h.handlerPc, h.catchType)) = [(0, 9, 12, 13)]) {x : Int32}
    (hM : MetFree l yX10_led (headSpec (WS mX10_led) rmL) (fun a U => PcG G [.ref 0, .int x] (S, mm) a U ∧ TH (A0 G) U) (fun _ _ _ _ _ => True) (QT G S mm)) (hS0 : S[0]? = some (10, 17)) (hR : Rep G (S, mm) H) (hS : va_S (A0 G) s.heap H locs) (hsz : lsA.size = c.maxLocals)
    (hroom : cells + 1 ≤ R.cells ∧ slots + 6 ≤ R.slots ∧ 7 ≤ R.frames ∧ 500 ≤ R.locals) {w : Value} (hw : w.category = 1)
    (kk : ∀ H1 locs1, Rep G (S ++ [(18, 6)], mm) H1 → va_S (A0 G) s.heap H1 locs1 → W p l e R s m args below meth c H1 locs1 (cells + 1) (slots + 6) Q (F0 m 12 lsA [.ref (gB G + S.length)])) :
    W p l e R s m args below meth c H locs cells slots Q (F0 m 4 lsA [.int x, .ref (gB G + 0), .int 0, w]) := by
  intro T hT X
  have hz := hR.1
  obtain ⟨q', hv', -, cell, o1, o2, o3, -⟩ := (hR.2.2 0 10 17 hS0).1 (by decide)
  have hfc : s.vm.findClass RX10 = some cell.cls := by
    obtain ⟨-, hfc, -⟩ := F.2.2.2.2.2.1.1.1 10 _ (show vwCl[10]? = some (RX10, TX10, 17) from rfl)
    rw [o2]
    exact hfc
  obtain ⟨mk, methM, hnamed, hmethM, hstM, habM⟩ := Cond.instanceMethod_spec (F.2.2.2.2.1 _ im_X10_led)
  obtain ⟨methM', cM, hmethM', hcM, -, hlM, -, -, -, hsigM⟩ := Cond.code_spec hnamed (F.2.2.2.2.1 _ cd_X10_led)
  cases hmethM.symm.trans hmethM'
  obtain ⟨c2, r2, m2, q1, q2, q3, q4, kP, hkP, hkPi⟩ := Cond.selects_spec (F.2.2.2.2.1 _ se_X10_led)
  cases hfc.symm.trans q1
  have hy : yX10_led.cls ≠ "java/lang/invoke/MethodHandle" ∧ yX10_led.cls ≠ "java/lang/invoke/VarHandle" := by decide
  cases (State.methodFound?_of_named hnamed hy).symm.trans q2
  cases hnamed.symm.trans q3
  have hselP : selectMethod e.platform s.vm cell.cls mk = .method mk := by rw [Launch.admits_selectMethod X.admits]; exact q4
  have hlen : ([.int x] : List Value).length = methM.sig.parameters.length := by
    have h5 := mo_X10_led.2.2.1.2.2
    rw [hsigM] at h5
    exact (Option.some.inj h5).symm
  obtain ⟨vm₁, X₁, hstep₁⟩ := X.invokevirtual F.1 F.2.2.2.1 (F.2.2.2.2.1 _ ml_L_7) hnamed hmethM hstM hkP hkPi hy (a := gB G + 0) (cell := cell) (by rw [hT]; exact o1) (fun z h => by rw [h] at o3; cases o3) hselP hmethM habM hkP hkPi (g := F0 m 4 lsA [.int x, .ref (gB G + 0), .int 0, w]) rfl (argsL := [.int x]) (rest := [.int 0, w]) hlen rfl (by rw [F.2.1]; exact dL_led_4)
  have hg1 : ∀ w', inT w' → ∀ a', w'.before a' (T.setVm vm₁) = true := fun w' hw' a' => word_at X₁.warmed (good_of_word hw'.2) (F.2.2.2.2.1 w' hw')
  have hlow : ∀ a, a < s.heap.size → ¬ A0 G a → (T.setVm vm₁).heap[a]? = s.heap[a]? := fun a h1 h2 => by
    show T.heap[a]? = _
    rw [hT]
    exact hS.2.1 a h1 h2
  have hn1 : (T.setVm vm₁).methodNamed? yX10_led = some mk := X₁.named hnamed
  have hkY1 := className_of_methodNamed hn1
  obtain ⟨kY, hkY, -⟩ := hkY1
  have hinitY : kY.init = .initialized := Cond.initialized_spec (findClass_of_methodNamed hn1) hkY (hg1 _ ini_X10 #[])
  obtain ⟨methY, cY, hmY, hcY, -, hlY, -, -, -, -⟩ := Cond.code_spec hn1 (hg1 _ cd_X10_led #[])
  have hdg : decode c.code (F0 m 4 lsA [.int 0, w]).pc = .ok (.invokevirtual 7, 3) := by rw [F.2.1]; exact dL_led_4
  have happ : (headSpec (WS mX10_led) rmL).appliesLoose yX10_led e.platform ((T.setVm vm₁).calling (F0 m 4 lsA [.int 0, w]) mk #[.ref (gB G + 0), .int x]) = true :=
    Spec.appliesLoose_calling (g := F0 m 4 lsA [.int 0, w]) X₁.here hdg hn1 hkY hinitY
      (X₁.room_calling (g := F0 m 4 lsA [.int 0, w]) (R' := rmL) hsz hmY hcY (by show 6 + 1 ≤ R.frames; omega) (by
        rw [hlY]
        simp only [List.map_cons, List.map_nil, List.sum_cons, List.sum_nil, hw]
        show 2 * 0 + (1 + (1 + 0)) + (3 + 11) + 384 ≤ R.locals
        omega) hroom.1 hroom.2.1)
      (atoms_intro fun w' hw' => by
        rcases List.mem_cons.mp hw' with rfl | h
        · exact hg1 _ cd_X10_led _
        · exact hg1 _ (TB_inT h) _)
  obtain ⟨mid, hmid⟩ := X₁.here.above
  have hfr : ((T.setVm vm₁).setTop (F0 m 4 lsA [.int 0, w])).frames = (.java (F0 m 4 lsA [.int 0, w]) :: mid) ++ below := by rw [State.frames_setTop' _ X₁.here.top, hmid]; rfl
  have hWC1 : WC G (T.setVm vm₁) := F.2.2.2.2.2.1.warm X₁.warmed (by show ∀ q, q < gB G → T.heap[q]? = _; rw [hT]; exact hS.low F.2.2.2.2.2.1.2.2.2.2.2.2.2.1) (by show gB G ≤ T.heap.size; rw [hT]; exact Nat.le_trans F.2.2.2.2.2.1.2.2.2.2.2.2.2.1 hS.1)
  have hP : PcG G [.ref 0, .int x] (S, mm) #[.ref (gB G + 0), .int x] ((T.setVm vm₁).calling (F0 m 4 lsA [.int 0, w]) mk #[.ref (gB G + 0), .int x]) ∧ TH (A0 G) ((T.setVm vm₁).calling (F0 m 4 lsA [.int 0, w]) mk #[.ref (gB G + 0), .int x]) :=
    ⟨⟨by show _ = (cst G [.ref 0, .int x]).toArray; unfold cst; rw [List.map_cons, cv_ref (by decide)]; rfl, by show Rep G (S, mm) T.heap; rw [hT]; exact hR, hWC1.calling⟩, hZ.warm X₁.warmed hlow⟩
  obtain ⟨o, s₂, hsteps, -, hend, hq⟩ := Steps.callFree hM p X.admits X.cas X.clock (acts := []) hfr happ hP trivial
  obtain ⟨ho, q1', q2', ⟨ce, d1, d2, d3⟩, qW, L, qL, qs⟩ := hq
  have hTz : T.heap.size = gB G + S.length := by rw [hT]; exact hz
  have ho' : o = .threw T.heap.size := ho
  have d1' : s₂.heap[T.heap.size]? = some ce := d1
  clear ho d1
  have ho := ho'
  have d1 := d1'
  rw [hTz] at ho d1
  subst ho
  rw [State.frames_setTop' _ X₁.here.top, X₁.tail] at hend
  obtain ⟨T', X', hWT, hsT, ht⟩ := X₁.outOfThrown (g := F0 m 4 lsA [.int 0, w]) rfl hend qW qs
  have hheap : s₂.heap = T'.heap := by rw [ht]; exact throwing_heap _ _ _
  have hpl : e.platform.magicAccessors = ({} : Platform).magicAccessors := by rw [X.admits.platform]
  obtain ⟨cc, hfcc, hcl⟩ := Cond.classLink_spec F.2.2.2.1 (F.2.2.2.2.1 _ cl_L13) e.platform hpl
  obtain ⟨hgv, hwarm₂, -⟩ := State.classEntry (e := e) X'.warmed hcl
  have hsz : (T'.vm.noted m.cls 13 (.cls cc)).classes.size ≤ T'.vm.classes.size := by no_record
  generalize T'.vm.noted m.cls 13 (.cls cc) = vm₂ at hgv hwarm₂ hsz
  have hcc : ce.cls = cc := by
    have d2' : (T.setVm vm₁).vm.findClass nse = some ce.cls := d2
    rw [X₁.warmed.alike.findClass] at d2'
    exact Option.some.inj (d2'.symm.trans hfcc)
  obtain ⟨kC, hkC⟩ : ∃ k, vm₂.classes[cc]? = some k := by
    obtain ⟨k, hk⟩ := Vm.classAt_of_findClass hfcc
    obtain ⟨k', hk', -⟩ := hwarm₂.alike.2.2 _ _ hk
    exact ⟨k', hk'⟩
  have hent : ∃ h, c.exceptionTable.toList = [h] ∧ h.startPc = 0 ∧ h.endPc = 9 ∧ h.handlerPc = 12 ∧ h.catchType = 13 := by
    cases hl : c.exceptionTable.toList with
    | nil => rw [hl] at htab; cases htab
    | cons h t =>
      rw [hl] at htab
      simp only [List.map_cons, List.cons.injEq, Prod.mk.injEq, List.map_eq_nil_iff] at htab
      obtain ⟨⟨a1, a2, a3, a4⟩, rfl⟩ := htab
      exact ⟨h, rfl, a1, a2, a3, a4⟩
  obtain ⟨h, hh1, hh2, hh3, hh4, hh5⟩ := hent
  have X2 : Stand p l e R s m args below meth c (T'.setVm vm₂) (locs ++ L) (cells + 1) (slots + 6) := X'.noted hwarm₂
  obtain ⟨t, a1, b1⟩ := kk s₂.heap (locs ++ L) q1' (hS.call (st₀ := (T.setVm vm₁).calling (F0 m 4 lsA [.int 0, w]) mk #[.ref (gB G + 0), .int x]) hT q2' qL) (T'.setVm vm₂) hheap.symm X2
  refine ⟨t, hstep₁ _ fun acts => ?_, b1⟩
  rw [doInvoke_state]
  refine hsteps.trans ?_
  rw [ht]
  refine caught_cold (g := F0 m 4 lsA [.int 0, w]) X'.here (pc := 12) (vm₂ := vm₂) (fun Q E d acts => ?_) a1
  have hm' : (((T'.setTop (F0 m 4 lsA [.int 0, w])).pushFrame (.throwing (gB G + S.length)))).vm.method? (F0 m 4 lsA [.int 0, w]).method = some meth := by rw [throwing_vm]; exact X'.method'
  rw [_root_.Jvm.W.findHandler_eq hm' X'.code, hh1, ← hh4]
  refine fh_cold (c := cc) (cell := ce) (by simp [covers, hh2, hh3]) (by rw [hh5]; decide) (by rw [throwing_vm, hh5]; exact hgv) (by rw [throwing_heap, ← hheap]; exact d1) (fun k hk => by rw [d3] at hk; cases hk) ⟨kC, by rw [hcc]; exact hkC⟩ ⟨kC, hkC⟩ (by rw [hcc]; exact Vm.assignable_self _ _) (by rw [throwing_vm]; exact hsz) Q E d acts
end LL
